/-- fewer locals known -/
def fr_le : List (Option Value) → List (Option Value) → Prop
  | [], _ => True
  | none :: r, _ :: r' => fr_le r r'
  | none :: _, [] => False
  | some v :: r, x :: r' => x = some v ∧ fr_le r r'
  | some _ :: _, [] => False
theorem fr_le_at : ∀ (a b : List (Option Value)), fr_le a b → ∀ (i : Nat) (v : Value), a[i]? = some (some v) → b[i]? = some (some v)
  | [], _, _, i, v, h => by simp at h
  | none :: r, y :: r', hl, 0, v, h => by simp at h
  | none :: r, y :: r', hl, i + 1, v, h => by
    have := fr_le_at r r' hl i v (by simpa using h)
    simpa using this
  | none :: _, [], hl, _, _, _ => hl.elim
  | some u :: r, y :: r', hl, 0, v, h => by
    simp at h
    subst h
    simp [hl.1]
  | some u :: r, y :: r', hl, i + 1, v, h => by
    have := fr_le_at r r' hl.2 i v (by simpa using h)
    simpa using this
  | some _ :: _, [], hl, _, _, _ => hl.elim
theorem fr_wk {l : Launch} {κ : fr_Ka} {mi : fr_Mi} {k : Nat} {Q : Option Value → fr_Me → Prop} {pc : Nat} {ls ls' : List (Option Value)} {st : List Value} {μ : fr_Me} (a : fr_A l κ mi k Q pc ls st μ) (h : fr_le ls ls') : fr_A l κ mi k Q pc ls' st μ := by
  intro p e s m args below meth c hF H locs lsA hI hL hl
  exact a p e s m args below meth c hF H locs lsA hI hL ⟨hl.1, hl.2.1, fun i v hv => hl.2.2 i v (fr_le_at ls ls' h i v hv)⟩
theorem fr_up_get (μ : fr_Me) (c k z c' k' : Int) : fr_up μ c k z c' k' = if c' = c ∧ k' = k then z else μ c' k' := rfl
theorem fr_i32 (x : Int32) : -2147483648 ≤ x.toInt ∧ x.toInt ≤ 2147483647 := by
  have h1 := x.le_toInt
  have h2 := x.toInt_lt
  omega
theorem fr_and_rg (a b : Int) : -2147483648 ≤ fr_and a b ∧ fr_and a b ≤ 2147483647 := fr_i32 _
theorem fr_or_rg (a b : Int) : -2147483648 ≤ fr_or a b ∧ fr_or a b ≤ 2147483647 := fr_i32 _
theorem fr_xor_rg (a b : Int) : -2147483648 ≤ fr_xor a b ∧ fr_xor a b ≤ 2147483647 := fr_i32 _
theorem fr_shl_rg (a b : Int) : -2147483648 ≤ fr_shl a b ∧ fr_shl a b ≤ 2147483647 := fr_i32 _
theorem fr_shr_rg (a b : Int) : -2147483648 ≤ fr_shr a b ∧ fr_shr a b ≤ 2147483647 := fr_i32 _
/-- k is in a set of bits -/
def sp_in (set k : Int) : Prop := fr_and (fr_shr set k) 1 = 1
def sp_s10 (x : Int) : Int := (if x.tmod 2 = 0 then 2 else 1) * (if x.tmod 5 = 0 then 5 else 1)
def sp_begin (μ : fr_Me) (c kind last before : Int) : fr_Me := fr_up (fr_up (fr_up (fr_up (fr_up (fr_up (fr_up μ c 0 kind) c 1 5) c 2 last) c 3 before) c 4 0) c 5 0) c 6 0
def sp_cut (μ : fr_Me) (c d : Int) : fr_Me := fr_up (fr_up (sp_begin μ c (μ d 0) (μ d 2) (μ d 3)) c 4 (μ d 4)) c 5 (μ d 5)
def sp_passT (μ : fr_Me) (c nf : Int) : fr_Me := fr_up (fr_up (fr_up (fr_up (fr_up μ c 3 (μ c 2)) c 5 (μ c 4)) c 2 (μ c 1)) c 4 nf) c 1 5
def sp_trait (μ : fr_Me) (c what : Int) : Int := if what = 0 then μ c 0 else if what = 1 then μ c 1 else if what = 2 then μ c 2 else if what = 3 then μ c 3 else sp_bv (μ c 0) (μ c 1)
set_option maxRecDepth 20000 in
theorem kcX10_isWithin {l : Launch} {κ : fr_Ka} {μ : fr_Me} {v a b : Int} (rv : -2147483648 ≤ v ∧ v ≤ 2147483647) (ra : -2147483648 ≤ a ∧ a ≤ 2147483647) (rb : -2147483648 ≤ b ∧ b ≤ 2147483647) : fr_C l κ fmX10_isWithin 1 [fr_i v, fr_i a, fr_i b] μ (fr_Ei (fr_b (a ≤ v ∧ v ≤ b)) μ) := by
  refine fr_enter (by decide +kernel) (ls := [some (fr_i v), some (fr_i a), some (fr_i b)]) rfl (Nat.le_of_ble_eq_true rfl) ?_
  refine fr_il0 dX10_isWithin_0 ?_
  refine fr_il1 dX10_isWithin_1 ?_
  refine fr_icmp_lt (tgt := 14) dX10_isWithin_2 (by decide) (by omega) (by omega) (fun h1 => ?_) (fun h1 => ?_)
  · skip
    refine fr_iconst dX10_isWithin_14 ?_
    exact fr_zret dX10_isWithin_15 rfl (Or.inl rfl) (fr_e (by first | rfl | exact (fr_bT (by omega)).symm | exact (fr_bF (by omega)).symm | exact fr_bc (by omega)) rfl)
  · skip
    refine fr_il0 dX10_isWithin_5 ?_
    refine fr_il2 dX10_isWithin_6 ?_
    refine fr_icmp_gt (tgt := 14) dX10_isWithin_7 (by decide) (by omega) (by omega) (fun h2 => ?_) (fun h2 => ?_)
    · skip
      refine fr_iconst dX10_isWithin_14 ?_
      exact fr_zret dX10_isWithin_15 rfl (Or.inl rfl) (fr_e (by first | rfl | exact (fr_bT (by omega)).symm | exact (fr_bF (by omega)).symm | exact fr_bc (by omega)) rfl)
    · skip
      refine fr_iconst dX10_isWithin_10 ?_
      refine fr_goto (tgt := 15) dX10_isWithin_11 (by decide) ?_
      exact fr_zret dX10_isWithin_15 rfl (Or.inr rfl) (fr_e (by first | rfl | exact (fr_bT (by omega)).symm | exact (fr_bF (by omega)).symm | exact fr_bc (by omega)) rfl)
set_option maxRecDepth 20000 in
theorem kcX10_isFruit {l : Launch} {κ : fr_Ka} {μ : fr_Me} {v : Int} (rv : -2147483648 ≤ v ∧ v ≤ 2147483647) : fr_C l κ fmX10_isFruit 2 [fr_i v] μ (fr_Ei (fr_b (0 ≤ v ∧ v ≤ 9)) μ) := by
  refine fr_enter (by decide +kernel) (ls := [some (fr_i v)]) rfl (Nat.le_of_ble_eq_true rfl) ?_
  refine fr_il0 dX10_isFruit_0 ?_
  refine fr_iconst dX10_isFruit_1 ?_
  refine fr_bipush dX10_isFruit_2 (by decide) ?_
  refine fr_cSi (mi' := fmX10_isWithin) dX10_isFruit_4 mlX10_76 msX10_isWithin (Nat.le_of_ble_eq_true rfl) (kcX10_isWithin (by omega) (by omega) (by omega)) rfl rfl (Nat.le_of_ble_eq_true rfl) ?_
  exact fr_zret dX10_isFruit_7 rfl (fr_b01 _) (fr_e rfl rfl)
set_option maxRecDepth 20000 in
theorem kcX10_isSheet {l : Launch} {κ : fr_Ka} {μ : fr_Me} {v : Int} (rv : -2147483648 ≤ v ∧ v ≤ 2147483647) : fr_C l κ fmX10_isSheet 2 [fr_i v] μ (fr_Ei (fr_b (0 ≤ v ∧ v ≤ 3)) μ) := by
  refine fr_enter (by decide +kernel) (ls := [some (fr_i v)]) rfl (Nat.le_of_ble_eq_true rfl) ?_
  refine fr_il0 dX10_isSheet_0 ?_
  refine fr_iconst dX10_isSheet_1 ?_
  refine fr_iconst dX10_isSheet_2 ?_
  refine fr_cSi (mi' := fmX10_isWithin) dX10_isSheet_3 mlX10_76 msX10_isWithin (Nat.le_of_ble_eq_true rfl) (kcX10_isWithin (by omega) (by omega) (by omega)) rfl rfl (Nat.le_of_ble_eq_true rfl) ?_
  exact fr_zret dX10_isSheet_6 rfl (fr_b01 _) (fr_e rfl rfl)
set_option maxRecDepth 20000 in
theorem kcX10_isLane {l : Launch} {κ : fr_Ka} {μ : fr_Me} {v : Int} (rv : -2147483648 ≤ v ∧ v ≤ 2147483647) : fr_C l κ fmX10_isLane 2 [fr_i v] μ (fr_Ei (fr_b (0 ≤ v ∧ v ≤ 3)) μ) := by
  refine fr_enter (by decide +kernel) (ls := [some (fr_i v)]) rfl (Nat.le_of_ble_eq_true rfl) ?_
  refine fr_il0 dX10_isLane_0 ?_
  refine fr_iconst dX10_isLane_1 ?_
  refine fr_iconst dX10_isLane_2 ?_
  refine fr_cSi (mi' := fmX10_isWithin) dX10_isLane_3 mlX10_76 msX10_isWithin (Nat.le_of_ble_eq_true rfl) (kcX10_isWithin (by omega) (by omega) (by omega)) rfl rfl (Nat.le_of_ble_eq_true rfl) ?_
  exact fr_zret dX10_isLane_6 rfl (fr_b01 _) (fr_e rfl rfl)
set_option maxRecDepth 20000 in
theorem kcX10_isTrait {l : Launch} {κ : fr_Ka} {μ : fr_Me} {what v : Int} (rwhat : -2147483648 ≤ what ∧ what ≤ 2147483647) (rv : -2147483648 ≤ v ∧ v ≤ 2147483647) : fr_C l κ fmX10_isTrait 2 [fr_i what, fr_i v] μ (fr_Ei (fr_b ((what = 1 ∧ 1 ≤ v ∧ v ≤ 9) ∨ (what = 2 ∧ 0 ≤ v ∧ v ≤ 99) ∨ (what = 3 ∧ 0 ≤ v ∧ v ≤ 10))) μ) := by
  refine fr_enter (by decide +kernel) (ls := [some (fr_i what), some (fr_i v)]) rfl (Nat.le_of_ble_eq_true rfl) ?_
  refine fr_il0 dX10_isTrait_0 ?_
  rcases (by omega : what < 1 ∨ 3 < what ∨ what = 1 ∨ what = 2 ∨ what = 3) with h1 | h1 | h1 | h1 | h1
  · skip
    refine fr_tswOut (tgt := 52) dX10_isTrait_1 (by omega) (Or.inl h1) (by decide) ?_
    refine fr_iconst dX10_isTrait_52 ?_
    exact fr_zret dX10_isTrait_53 rfl (Or.inl rfl) (fr_e (by first | rfl | exact (fr_bT (by omega)).symm | exact (fr_bF (by omega)).symm | exact fr_bc (by omega)) rfl)
  · skip
    refine fr_tswOut (tgt := 52) dX10_isTrait_1 (by omega) (Or.inr h1) (by decide) ?_
    refine fr_iconst dX10_isTrait_52 ?_
    exact fr_zret dX10_isTrait_53 rfl (Or.inl rfl) (fr_e (by first | rfl | exact (fr_bT (by omega)).symm | exact (fr_bF (by omega)).symm | exact fr_bc (by omega)) rfl)
  · skip
    refine fr_tswIn (tgt := 28) (off := 27) dX10_isTrait_1 (by omega) (by omega) (by omega) (by rw [h1]; rfl) (by decide) ?_
    refine fr_il1 dX10_isTrait_28 ?_
    refine fr_iconst dX10_isTrait_29 ?_
    refine fr_bipush dX10_isTrait_30 (by decide) ?_
    refine fr_cSi (mi' := fmX10_isWithin) dX10_isTrait_32 mlX10_76 msX10_isWithin (Nat.le_of_ble_eq_true rfl) (kcX10_isWithin (by omega) (by omega) (by omega)) rfl rfl (Nat.le_of_ble_eq_true rfl) ?_
    exact fr_zret dX10_isTrait_35 rfl (fr_b01 _) (fr_e (by first | rfl | exact (fr_bT (by omega)).symm | exact (fr_bF (by omega)).symm | exact fr_bc (by omega)) rfl)
  · skip
    refine fr_tswIn (tgt := 36) (off := 35) dX10_isTrait_1 (by omega) (by omega) (by omega) (by rw [h1]; rfl) (by decide) ?_
    refine fr_il1 dX10_isTrait_36 ?_
    refine fr_iconst dX10_isTrait_37 ?_
    refine fr_bipush dX10_isTrait_38 (by decide) ?_
    refine fr_cSi (mi' := fmX10_isWithin) dX10_isTrait_40 mlX10_76 msX10_isWithin (Nat.le_of_ble_eq_true rfl) (kcX10_isWithin (by omega) (by omega) (by omega)) rfl rfl (Nat.le_of_ble_eq_true rfl) ?_
    exact fr_zret dX10_isTrait_43 rfl (fr_b01 _) (fr_e (by first | rfl | exact (fr_bT (by omega)).symm | exact (fr_bF (by omega)).symm | exact fr_bc (by omega)) rfl)
  · skip
    refine fr_tswIn (tgt := 44) (off := 43) dX10_isTrait_1 (by omega) (by omega) (by omega) (by rw [h1]; rfl) (by decide) ?_
    refine fr_il1 dX10_isTrait_44 ?_
    refine fr_iconst dX10_isTrait_45 ?_
    refine fr_bipush dX10_isTrait_46 (by decide) ?_
    refine fr_cSi (mi' := fmX10_isWithin) dX10_isTrait_48 mlX10_76 msX10_isWithin (Nat.le_of_ble_eq_true rfl) (kcX10_isWithin (by omega) (by omega) (by omega)) rfl rfl (Nat.le_of_ble_eq_true rfl) ?_
    exact fr_zret dX10_isTrait_51 rfl (fr_b01 _) (fr_e (by first | rfl | exact (fr_bT (by omega)).symm | exact (fr_bF (by omega)).symm | exact fr_bc (by omega)) rfl)
set_option maxRecDepth 20000 in
theorem kcX10_isIn {l : Launch} {κ : fr_Ka} {μ : fr_Me} {set k : Int} : fr_C l κ fmX10_isIn 1 [fr_i set, fr_i k] μ (fr_Ei (fr_b (sp_in set k)) μ) := by
  have hr := fr_and_rg (fr_shr set k) 1
  refine fr_enter (by decide +kernel) (ls := [some (fr_i set), some (fr_i k)]) rfl (Nat.le_of_ble_eq_true rfl) ?_
  refine fr_il0 dX10_isIn_0 ?_
  refine fr_il1 dX10_isIn_1 ?_
  refine fr_ishr dX10_isIn_2 ?_
  refine fr_iconst dX10_isIn_3 ?_
  refine fr_iand dX10_isIn_4 ?_
  refine fr_iconst dX10_isIn_5 ?_
  refine fr_icmp_ne (tgt := 13) dX10_isIn_6 (by decide) (by omega) (by omega) (fun h1 => ?_) (fun h1 => ?_)
  · skip
    refine fr_iconst dX10_isIn_13 ?_
    exact fr_zret dX10_isIn_14 rfl (Or.inl rfl) (fr_e (by first | exact (fr_bT (by assumption)).symm | exact (fr_bF (by assumption)).symm) rfl)
  · skip
    refine fr_iconst dX10_isIn_9 ?_
    refine fr_goto (tgt := 14) dX10_isIn_10 (by decide) ?_
    exact fr_zret dX10_isIn_14 rfl (Or.inr rfl) (fr_e (by first | exact (fr_bT (by assumption)).symm | exact (fr_bF (by assumption)).symm) rfl)
set_option maxRecDepth 20000 in
theorem kcX10_sharedWithTen {l : Launch} {κ : fr_Ka} {μ : fr_Me} {x : Int} (rx : -2147483648 ≤ x ∧ x ≤ 2147483647) : fr_C l κ fmX10_sharedWithTen 1 [fr_i x] μ (fr_Ei (sp_s10 x) μ) := by
  have t2 : -2 < x.tmod 2 ∧ x.tmod 2 < 2 := tmod_bounds (by omega)
  have t5 : -5 < x.tmod 5 ∧ x.tmod 5 < 5 := tmod_bounds (by omega)
  refine fr_enter (by decide +kernel) (ls := [some (fr_i x)]) rfl (Nat.le_of_ble_eq_true rfl) ?_
  refine fr_il0 dX10_sharedWithTen_0 ?_
  refine fr_iconst dX10_sharedWithTen_1 ?_
  refine fr_irem dX10_sharedWithTen_2 (by omega) (by omega) (by omega) ?_
  refine fr_if_ne (tgt := 10) dX10_sharedWithTen_3 (by decide) (by omega) (fun h1 => ?_) (fun h1 => ?_)
  · skip
    refine fr_iconst dX10_sharedWithTen_10 ?_
    refine fr_il0 dX10_sharedWithTen_11 ?_
    refine fr_iconst dX10_sharedWithTen_12 ?_
    refine fr_irem dX10_sharedWithTen_13 (by omega) (by omega) (by omega) ?_
    refine fr_if_ne (tgt := 21) dX10_sharedWithTen_14 (by decide) (by omega) (fun h2 => ?_) (fun h2 => ?_)
    · skip
      refine fr_iconst dX10_sharedWithTen_21 ?_
      refine fr_imul dX10_sharedWithTen_22 ?_
      exact fr_iret dX10_sharedWithTen_23 rfl (fr_e (by unfold sp_s10; simp [*]) rfl)
    · skip
      refine fr_iconst dX10_sharedWithTen_17 ?_
      refine fr_goto (tgt := 22) dX10_sharedWithTen_18 (by decide) ?_
      refine fr_imul dX10_sharedWithTen_22 ?_
      exact fr_iret dX10_sharedWithTen_23 rfl (fr_e (by unfold sp_s10; simp [*]) rfl)
  · skip
    refine fr_iconst dX10_sharedWithTen_6 ?_
    refine fr_goto (tgt := 11) dX10_sharedWithTen_7 (by decide) ?_
    refine fr_il0 dX10_sharedWithTen_11 ?_
    refine fr_iconst dX10_sharedWithTen_12 ?_
    refine fr_irem dX10_sharedWithTen_13 (by omega) (by omega) (by omega) ?_
    refine fr_if_ne (tgt := 21) dX10_sharedWithTen_14 (by decide) (by omega) (fun h3 => ?_) (fun h3 => ?_)
    · skip
      refine fr_iconst dX10_sharedWithTen_21 ?_
      refine fr_imul dX10_sharedWithTen_22 ?_
      exact fr_iret dX10_sharedWithTen_23 rfl (fr_e (by unfold sp_s10; simp [*]) rfl)
    · skip
      refine fr_iconst dX10_sharedWithTen_17 ?_
      refine fr_goto (tgt := 22) dX10_sharedWithTen_18 (by decide) ?_
      refine fr_imul dX10_sharedWithTen_22 ?_
      exact fr_iret dX10_sharedWithTen_23 rfl (fr_e (by unfold sp_s10; simp [*]) rfl)
set_option maxRecDepth 20000 in
theorem kcX0_brings {l : Launch} {κ : fr_Ka} {μ : fr_Me} {c : Int} (hc : fr_ob c 0) (hk : 0 ≤ μ c 0 ∧ μ c 0 ≤ 3) : fr_C l κ fmX0_brings 1 [fr_r κ c] μ (fr_Ei (sp_bv (μ c 0) (μ c 1)) μ) := by
  refine fr_enter (by decide +kernel) (ls := [some (fr_r κ c)]) rfl (Nat.le_of_ble_eq_true rfl) ?_
  refine fr_al0 dX0_brings_0 ?_
  refine fr_geti (kz := 0) dX0_brings_1 flX0_9 hc rfl rfl ?_
  refine fr_iconst dX0_brings_4 ?_
  refine fr_icmp_eq (tgt := 16) dX0_brings_5 (by decide) (by omega) (by omega) (fun h1 => ?_) (fun h1 => ?_)
  · skip
    refine fr_bipush dX0_brings_16 (by decide) ?_
    refine fr_al0 dX0_brings_18 ?_
    refine fr_geti (kz := 1) dX0_brings_19 flX0_15 hc rfl rfl ?_
    refine fr_isub dX0_brings_22 ?_
    refine fr_goto (tgt := 30) dX0_brings_23 (by decide) ?_
    exact fr_iret dX0_brings_30 rfl (fr_e (by unfold sp_bv; split <;> omega) rfl)
  · skip
    refine fr_al0 dX0_brings_8 ?_
    refine fr_geti (kz := 0) dX0_brings_9 flX0_9 hc rfl rfl ?_
    refine fr_iconst dX0_brings_12 ?_
    refine fr_icmp_ne (tgt := 26) dX0_brings_13 (by decide) (by omega) (by omega) (fun h2 => ?_) (fun h2 => ?_)
    · skip
      refine fr_al0 dX0_brings_26 ?_
      refine fr_geti (kz := 1) dX0_brings_27 flX0_15 hc rfl rfl ?_
      exact fr_iret dX0_brings_30 rfl (fr_e (by unfold sp_bv; split <;> omega) rfl)
    · skip
      refine fr_bipush dX0_brings_16 (by decide) ?_
      refine fr_al0 dX0_brings_18 ?_
      refine fr_geti (kz := 1) dX0_brings_19 flX0_15 hc rfl rfl ?_
      refine fr_isub dX0_brings_22 ?_
      refine fr_goto (tgt := 30) dX0_brings_23 (by decide) ?_
      exact fr_iret dX0_brings_30 rfl (fr_e (by unfold sp_bv; split <;> omega) rfl)
set_option maxRecDepth 20000 in
theorem kcX0_trait {l : Launch} {κ : fr_Ka} {μ : fr_Me} {c : Int} (hc : fr_ob c 0) {what : Int} (hk : 0 ≤ μ c 0 ∧ μ c 0 ≤ 3) (rwhat : -2147483648 ≤ what ∧ what ≤ 2147483647) : fr_C l κ fmX0_trait 2 [fr_r κ c, fr_i what] μ (fr_Ei (sp_trait μ c what) μ) := by
  refine fr_enter (by decide +kernel) (ls := [some (fr_r κ c), some (fr_i what)]) rfl (Nat.le_of_ble_eq_true rfl) ?_
  refine fr_il1 dX0_trait_0 ?_
  rcases (by omega : what < 0 ∨ 3 < what ∨ what = 0 ∨ what = 1 ∨ what = 2 ∨ what = 3) with h1 | h1 | h1 | h1 | h1 | h1
  · skip
    refine fr_tswOut (tgt := 52) dX0_trait_1 (by omega) (Or.inl h1) (by decide) ?_
    refine fr_al0 dX0_trait_52 ?_
    refine fr_cVi (mi' := fmX0_brings) dX0_trait_53 mlX0_24 mvX0_brings ⟨0, _, hc, rfl, rfl⟩ (Nat.le_of_ble_eq_true rfl) (kcX0_brings hc (by omega)) rfl rfl (Nat.le_of_ble_eq_true rfl) ?_
    exact fr_iret dX0_trait_56 rfl (fr_e (by unfold sp_trait; (repeat' split) <;> first | rfl | omega) rfl)
  · skip
    refine fr_tswOut (tgt := 52) dX0_trait_1 (by omega) (Or.inr h1) (by decide) ?_
    refine fr_al0 dX0_trait_52 ?_
    refine fr_cVi (mi' := fmX0_brings) dX0_trait_53 mlX0_24 mvX0_brings ⟨0, _, hc, rfl, rfl⟩ (Nat.le_of_ble_eq_true rfl) (kcX0_brings hc (by omega)) rfl rfl (Nat.le_of_ble_eq_true rfl) ?_
    exact fr_iret dX0_trait_56 rfl (fr_e (by unfold sp_trait; (repeat' split) <;> first | rfl | omega) rfl)
  · skip
    refine fr_tswIn (tgt := 32) (off := 31) dX0_trait_1 (by omega) (by omega) (by omega) (by rw [h1]; rfl) (by decide) ?_
    refine fr_al0 dX0_trait_32 ?_
    refine fr_geti (kz := 0) dX0_trait_33 flX0_9 hc rfl rfl ?_
    exact fr_iret dX0_trait_36 rfl (fr_e (by unfold sp_trait; (repeat' split) <;> first | rfl | omega) rfl)
  · skip
    refine fr_tswIn (tgt := 37) (off := 36) dX0_trait_1 (by omega) (by omega) (by omega) (by rw [h1]; rfl) (by decide) ?_
    refine fr_al0 dX0_trait_37 ?_
    refine fr_geti (kz := 1) dX0_trait_38 flX0_15 hc rfl rfl ?_
    exact fr_iret dX0_trait_41 rfl (fr_e (by unfold sp_trait; (repeat' split) <;> first | rfl | omega) rfl)
  · skip
    refine fr_tswIn (tgt := 42) (off := 41) dX0_trait_1 (by omega) (by omega) (by omega) (by rw [h1]; rfl) (by decide) ?_
    refine fr_al0 dX0_trait_42 ?_
    refine fr_geti (kz := 2) dX0_trait_43 flX0_18 hc rfl rfl ?_
    exact fr_iret dX0_trait_46 rfl (fr_e (by unfold sp_trait; (repeat' split) <;> first | rfl | omega) rfl)
  · skip
    refine fr_tswIn (tgt := 47) (off := 46) dX0_trait_1 (by omega) (by omega) (by omega) (by rw [h1]; rfl) (by decide) ?_
    refine fr_al0 dX0_trait_47 ?_
    refine fr_geti (kz := 3) dX0_trait_48 flX0_21 hc rfl rfl ?_
    exact fr_iret dX0_trait_51 rfl (fr_e (by unfold sp_trait; (repeat' split) <;> first | rfl | omega) rfl)
set_option maxRecDepth 20000 in
theorem kcX0_change {l : Launch} {κ : fr_Ka} {μ : fr_Me} {c : Int} (hc : fr_ob c 0) {what v : Int} (rwhat : -2147483648 ≤ what ∧ what ≤ 2147483647) : fr_C l κ fmX0_change 1 [fr_r κ c, fr_i what, fr_i v] μ (fr_Ev (fr_up μ c (if what = 1 then 1 else if what = 2 then 2 else 3) v)) := by
  refine fr_enter (by decide +kernel) (ls := [some (fr_r κ c), some (fr_i what), some (fr_i v)]) rfl (Nat.le_of_ble_eq_true rfl) ?_
  refine fr_il1 dX0_change_0 ?_
  rcases (by omega : what = 1 ∨ what = 2 ∨ (what ≠ 1 ∧ what ≠ 2)) with h1 | h1 | h1
  · skip
    refine fr_lsw (tgt := 28) (off := 27) dX0_change_1 (by omega) (by decide) (by rw [h1]; rfl) (by decide) ?_
    refine fr_al0 dX0_change_28 ?_
    refine fr_il2 dX0_change_29 ?_
    refine fr_put (kz := 1) dX0_change_30 fpX0_15 hc rfl rfl (fun h => by cases h) ?_
    refine fr_goto (tgt := 49) dX0_change_33 (by decide) ?_
    exact fr_vret dX0_change_49 rfl (fr_ev (by (repeat' split) <;> first | rfl | omega))
  · skip
    refine fr_lsw (tgt := 36) (off := 35) dX0_change_1 (by omega) (by decide) (by rw [h1]; rfl) (by decide) ?_
    refine fr_al0 dX0_change_36 ?_
    refine fr_il2 dX0_change_37 ?_
    refine fr_put (kz := 2) dX0_change_38 fpX0_18 hc rfl rfl (fun h => by cases h) ?_
    refine fr_goto (tgt := 49) dX0_change_41 (by decide) ?_
    exact fr_vret dX0_change_49 rfl (fr_ev (by (repeat' split) <;> first | rfl | omega))
  · skip
    refine fr_lsw (tgt := 44) (off := 43) dX0_change_1 (by omega) (by decide) (by simp [Op.lookupswitch.offset, h1]; omega) (by decide) ?_
    refine fr_al0 dX0_change_44 ?_
    refine fr_il2 dX0_change_45 ?_
    refine fr_put (kz := 3) dX0_change_46 fpX0_21 hc rfl rfl (fun h => by cases h) ?_
    exact fr_vret dX0_change_49 rfl (fr_ev (by (repeat' split) <;> first | rfl | omega))
set_option maxRecDepth 20000 in
theorem kcX0_become {l : Launch} {κ : fr_Ka} {μ : fr_Me} {c : Int} (hc : fr_ob c 0) {a b d e : Int} : fr_C l κ fmX0_become 1 [fr_r κ c, fr_i a, fr_i b, fr_i d, fr_i e] μ (fr_Ev (fr_up (fr_up (fr_up (fr_up μ c 0 a) c 1 b) c 2 d) c 3 e)) := by
  refine fr_enter (by decide +kernel) (ls := [some (fr_r κ c), some (fr_i a), some (fr_i b), some (fr_i d), some (fr_i e)]) rfl (Nat.le_of_ble_eq_true rfl) ?_
  refine fr_al0 dX0_become_0 ?_
  refine fr_il1 dX0_become_1 ?_
  refine fr_put (kz := 0) dX0_become_2 fpX0_9 hc rfl rfl (fun h => by cases h) ?_
  refine fr_al0 dX0_become_5 ?_
  refine fr_il2 dX0_become_6 ?_
  refine fr_put (kz := 1) dX0_become_7 fpX0_15 hc rfl rfl (fun h => by cases h) ?_
  refine fr_al0 dX0_become_10 ?_
  refine fr_il3 dX0_become_11 ?_
  refine fr_put (kz := 2) dX0_become_12 fpX0_18 hc rfl rfl (fun h => by cases h) ?_
  refine fr_al0 dX0_become_15 ?_
  refine fr_il4 dX0_become_16 ?_
  refine fr_put (kz := 3) dX0_become_18 fpX0_21 hc rfl rfl (fun h => by cases h) ?_
  exact fr_vret dX0_become_21 rfl (fr_ev rfl)
set_option maxRecDepth 20000 in
theorem kcX0_isMonk {l : Launch} {κ : fr_Ka} {μ : fr_Me} {c : Int} (hc : fr_ob c 0) (hk : 0 ≤ μ c 0 ∧ μ c 0 ≤ 3) : fr_C l κ fmX0_isMonk 1 [fr_r κ c] μ (fr_Ei (fr_b (μ c 0 = 2)) μ) := by
  refine fr_enter (by decide +kernel) (ls := [some (fr_r κ c)]) rfl (Nat.le_of_ble_eq_true rfl) ?_
  refine fr_al0 dX0_isMonk_0 ?_
  refine fr_geti (kz := 0) dX0_isMonk_1 flX0_9 hc rfl rfl ?_
  refine fr_iconst dX0_isMonk_4 ?_
  refine fr_icmp_ne (tgt := 12) dX0_isMonk_5 (by decide) (by omega) (by omega) (fun h1 => ?_) (fun h1 => ?_)
  · skip
    refine fr_iconst dX0_isMonk_12 ?_
    exact fr_zret dX0_isMonk_13 rfl (Or.inl rfl) (fr_e (by first | rfl | exact (fr_bT (by omega)).symm | exact (fr_bF (by omega)).symm | exact fr_bc (by omega)) rfl)
  · skip
    refine fr_iconst dX0_isMonk_8 ?_
    refine fr_goto (tgt := 13) dX0_isMonk_9 (by decide) ?_
    exact fr_zret dX0_isMonk_13 rfl (Or.inr rfl) (fr_e (by first | rfl | exact (fr_bT (by omega)).symm | exact (fr_bF (by omega)).symm | exact fr_bc (by omega)) rfl)
set_option maxRecDepth 20000 in
theorem kcX0_fallOdds {l : Launch} {κ : fr_Ka} {μ : fr_Me} {c : Int} (hc : fr_ob c 0) (hk : 0 ≤ μ c 0 ∧ μ c 0 ≤ 3) : fr_C l κ fmX0_fallOdds 1 [fr_r κ c] μ (fr_Ei (if μ c 0 = 3 then 0 else μ c 3) μ) := by
  refine fr_enter (by decide +kernel) (ls := [some (fr_r κ c)]) rfl (Nat.le_of_ble_eq_true rfl) ?_
  refine fr_al0 dX0_fallOdds_0 ?_
  refine fr_geti (kz := 0) dX0_fallOdds_1 flX0_9 hc rfl rfl ?_
  refine fr_iconst dX0_fallOdds_4 ?_
  refine fr_icmp_ne (tgt := 12) dX0_fallOdds_5 (by decide) (by omega) (by omega) (fun h1 => ?_) (fun h1 => ?_)
  · skip
    refine fr_al0 dX0_fallOdds_12 ?_
    refine fr_geti (kz := 3) dX0_fallOdds_13 flX0_21 hc rfl rfl ?_
    exact fr_iret dX0_fallOdds_16 rfl (fr_e (by (repeat' split) <;> first | rfl | omega) rfl)
  · skip
    refine fr_iconst dX0_fallOdds_8 ?_
    refine fr_goto (tgt := 16) dX0_fallOdds_9 (by decide) ?_
    exact fr_iret dX0_fallOdds_16 rfl (fr_e (by (repeat' split) <;> first | rfl | omega) rfl)
set_option maxRecDepth 20000 in
theorem kcX7_begin {l : Launch} {κ : fr_Ka} {μ : fr_Me} {c : Int} (hc : fr_ob c 7) {a b d : Int} : fr_C l κ fmX7_begin 1 [fr_r κ c, fr_i a, fr_i b, fr_i d] μ (fr_Ev (sp_begin μ c a b d)) := by
  refine fr_enter (by decide +kernel) (ls := [some (fr_r κ c), some (fr_i a), some (fr_i b), some (fr_i d)]) rfl (Nat.le_of_ble_eq_true rfl) ?_
  refine fr_al0 dX7_begin_0 ?_
  refine fr_il1 dX7_begin_1 ?_
  refine fr_put (kz := 0) dX7_begin_2 fpX7_9 hc rfl rfl (fun h => by cases h) ?_
  refine fr_al0 dX7_begin_5 ?_
  refine fr_iconst dX7_begin_6 ?_
  refine fr_put (kz := 1) dX7_begin_7 fpX7_15 hc rfl rfl (fun h => by cases h) ?_
  refine fr_al0 dX7_begin_10 ?_
  refine fr_il2 dX7_begin_11 ?_
  refine fr_put (kz := 2) dX7_begin_12 fpX7_18 hc rfl rfl (fun h => by cases h) ?_
  refine fr_al0 dX7_begin_15 ?_
  refine fr_il3 dX7_begin_16 ?_
  refine fr_put (kz := 3) dX7_begin_17 fpX7_21 hc rfl rfl (fun h => by cases h) ?_
  refine fr_al0 dX7_begin_20 ?_
  refine fr_iconst dX7_begin_21 ?_
  refine fr_put (kz := 4) dX7_begin_22 fpX7_24 hc rfl rfl (fun _ => Or.inl rfl) ?_
  refine fr_al0 dX7_begin_25 ?_
  refine fr_iconst dX7_begin_26 ?_
  refine fr_put (kz := 5) dX7_begin_27 fpX7_28 hc rfl rfl (fun _ => Or.inl rfl) ?_
  refine fr_al0 dX7_begin_30 ?_
  refine fr_iconst dX7_begin_31 ?_
  refine fr_put (kz := 6) dX7_begin_32 fpX7_31 hc rfl rfl (fun h => by cases h) ?_
  exact fr_vret dX7_begin_35 rfl (fr_ev rfl)
set_option maxRecDepth 20000 in
theorem kcX7_becomeCuttingOf {l : Launch} {κ : fr_Ka} {μ : fr_Me} {c : Int} (hc : fr_ob c 7) {d : Int} (hy : fr_ob d 7) (hne : d ≠ c) (h4 : 0 ≤ μ d 4 ∧ μ d 4 ≤ 1) (h5 : 0 ≤ μ d 5 ∧ μ d 5 ≤ 1) : fr_C l κ fmX7_becomeCuttingOf 2 [fr_r κ c, fr_r κ d] μ (fr_Ev (sp_cut μ c d)) := by
  refine fr_enter (by decide +kernel) (ls := [some (fr_r κ c), some (fr_r κ d)]) rfl (Nat.le_of_ble_eq_true rfl) ?_
  refine fr_al0 dX7_becomeCuttingOf_0 ?_
  refine fr_al1 dX7_becomeCuttingOf_1 ?_
  refine fr_geti (kz := 0) dX7_becomeCuttingOf_2 flX7_9 hy rfl rfl ?_
  refine fr_al1 dX7_becomeCuttingOf_5 ?_
  refine fr_geti (kz := 2) dX7_becomeCuttingOf_6 flX7_18 hy rfl rfl ?_
  refine fr_al1 dX7_becomeCuttingOf_9 ?_
  refine fr_geti (kz := 3) dX7_becomeCuttingOf_10 flX7_21 hy rfl rfl ?_
  refine fr_cVv (mi' := fmX7_begin) dX7_becomeCuttingOf_13 mlX7_34 mvX7_begin ⟨7, _, hc, rfl, rfl⟩ (Nat.le_of_ble_eq_true rfl) (kcX7_begin hc) rfl rfl (Nat.le_of_ble_eq_true rfl) ?_
  refine fr_al0 dX7_becomeCuttingOf_16 ?_
  refine fr_al1 dX7_becomeCuttingOf_17 ?_
  refine fr_geti (kz := 4) dX7_becomeCuttingOf_18 flX7_24 hy rfl rfl ?_
  refine fr_put (kz := 4) dX7_becomeCuttingOf_21 fpX7_24 hc rfl rfl (fun _ => by (unfold sp_begin; simp only [fr_up_nc _ _ _ hne]; omega)) ?_
  refine fr_al0 dX7_becomeCuttingOf_24 ?_
  refine fr_al1 dX7_becomeCuttingOf_25 ?_
  refine fr_geti (kz := 5) dX7_becomeCuttingOf_26 flX7_28 hy rfl rfl ?_
  refine fr_put (kz := 5) dX7_becomeCuttingOf_29 fpX7_28 hc rfl rfl (fun _ => by (unfold sp_begin; simp only [fr_up_nc _ _ _ hne]; omega)) ?_
  exact fr_vret dX7_becomeCuttingOf_32 rfl (fr_ev (by unfold sp_cut; simp only [sp_begin, fr_up_nc _ _ _ hne]))
set_option maxRecDepth 20000 in
theorem kcX7_become {l : Launch} {κ : fr_Ka} {μ : fr_Me} {c : Int} (hc : fr_ob c 7) {d : Int} (hy : fr_ob d 7) (hne : d ≠ c) (h4 : 0 ≤ μ d 4 ∧ μ d 4 ≤ 1) (h5 : 0 ≤ μ d 5 ∧ μ d 5 ≤ 1) : fr_C l κ fmX7_become 3 [fr_r κ c, fr_r κ d] μ (fr_Ev (fr_up (fr_up (sp_cut μ c d) c 1 (μ d 1)) c 6 (μ d 6))) := by
  refine fr_enter (by decide +kernel) (ls := [some (fr_r κ c), some (fr_r κ d)]) rfl (Nat.le_of_ble_eq_true rfl) ?_
  refine fr_al0 dX7_become_0 ?_
  refine fr_al1 dX7_become_1 ?_
  refine fr_cVv (mi' := fmX7_becomeCuttingOf) dX7_become_2 mlX7_38 mvX7_becomeCuttingOf ⟨7, _, hc, rfl, rfl⟩ (Nat.le_of_ble_eq_true rfl) (kcX7_becomeCuttingOf hc hy hne h4 h5) rfl rfl (Nat.le_of_ble_eq_true rfl) ?_
  refine fr_al0 dX7_become_5 ?_
  refine fr_al1 dX7_become_6 ?_
  refine fr_geti (kz := 1) dX7_become_7 flX7_15 hy rfl rfl ?_
  refine fr_put (kz := 1) dX7_become_10 fpX7_15 hc rfl rfl (fun h => by cases h) ?_
  refine fr_al0 dX7_become_13 ?_
  refine fr_al1 dX7_become_14 ?_
  refine fr_geti (kz := 6) dX7_become_15 flX7_31 hy rfl rfl ?_
  refine fr_put (kz := 6) dX7_become_18 fpX7_31 hc rfl rfl (fun h => by cases h) ?_
  exact fr_vret dX7_become_21 rfl (fr_ev (by simp only [sp_cut, sp_begin, fr_up_nc _ _ _ hne]))
set_option maxRecDepth 20000 in
theorem kcX7_mark {l : Launch} {κ : fr_Ka} {μ : fr_Me} {c : Int} (hc : fr_ob c 7) {what : Int} (h4 : 0 ≤ μ c 4 ∧ μ c 4 ≤ 1) (h5 : 0 ≤ μ c 5 ∧ μ c 5 ≤ 1) (rwhat : -2147483648 ≤ what ∧ what ≤ 2147483647) (hw : 0 ≤ what ∧ what ≤ 6) : fr_C l κ fmX7_mark 1 [fr_r κ c, fr_i what] μ (fr_Ei (μ c what) μ) := by
  refine fr_enter (by decide +kernel) (ls := [some (fr_r κ c), some (fr_i what)]) rfl (Nat.le_of_ble_eq_true rfl) ?_
  refine fr_il1 dX7_mark_0 ?_
  rcases (by omega : what < 0 ∨ 5 < what ∨ what = 0 ∨ what = 1 ∨ what = 2 ∨ what = 3 ∨ what = 4 ∨ what = 5) with h1 | h1 | h1 | h1 | h1 | h1 | h1 | h1
  · skip
    refine fr_tswOut (tgt := 86) dX7_mark_1 (by omega) (Or.inl h1) (by decide) ?_
    refine fr_al0 dX7_mark_86 ?_
    refine fr_geti (kz := 6) dX7_mark_87 flX7_31 hc rfl rfl ?_
    exact fr_iret dX7_mark_90 rfl (fr_e (by first | exact congrArg (μ c) (by omega) | (rw [h1]; omega)) rfl)
  · skip
    refine fr_tswOut (tgt := 86) dX7_mark_1 (by omega) (Or.inr h1) (by decide) ?_
    refine fr_al0 dX7_mark_86 ?_
    refine fr_geti (kz := 6) dX7_mark_87 flX7_31 hc rfl rfl ?_
    exact fr_iret dX7_mark_90 rfl (fr_e (by first | exact congrArg (μ c) (by omega) | (rw [h1]; omega)) rfl)
  · skip
    refine fr_tswIn (tgt := 40) (off := 39) dX7_mark_1 (by omega) (by omega) (by omega) (by rw [h1]; rfl) (by decide) ?_
    refine fr_al0 dX7_mark_40 ?_
    refine fr_geti (kz := 0) dX7_mark_41 flX7_9 hc rfl rfl ?_
    exact fr_iret dX7_mark_44 rfl (fr_e (by first | exact congrArg (μ c) (by omega) | (rw [h1]; omega)) rfl)
  · skip
    refine fr_tswIn (tgt := 45) (off := 44) dX7_mark_1 (by omega) (by omega) (by omega) (by rw [h1]; rfl) (by decide) ?_
    refine fr_al0 dX7_mark_45 ?_
    refine fr_geti (kz := 1) dX7_mark_46 flX7_15 hc rfl rfl ?_
    exact fr_iret dX7_mark_49 rfl (fr_e (by first | exact congrArg (μ c) (by omega) | (rw [h1]; omega)) rfl)
  · skip
    refine fr_tswIn (tgt := 50) (off := 49) dX7_mark_1 (by omega) (by omega) (by omega) (by rw [h1]; rfl) (by decide) ?_
    refine fr_al0 dX7_mark_50 ?_
    refine fr_geti (kz := 2) dX7_mark_51 flX7_18 hc rfl rfl ?_
    exact fr_iret dX7_mark_54 rfl (fr_e (by first | exact congrArg (μ c) (by omega) | (rw [h1]; omega)) rfl)
  · skip
    refine fr_tswIn (tgt := 55) (off := 54) dX7_mark_1 (by omega) (by omega) (by omega) (by rw [h1]; rfl) (by decide) ?_
    refine fr_al0 dX7_mark_55 ?_
    refine fr_geti (kz := 3) dX7_mark_56 flX7_21 hc rfl rfl ?_
    exact fr_iret dX7_mark_59 rfl (fr_e (by first | exact congrArg (μ c) (by omega) | (rw [h1]; omega)) rfl)
  · skip
    refine fr_tswIn (tgt := 60) (off := 59) dX7_mark_1 (by omega) (by omega) (by omega) (by rw [h1]; rfl) (by decide) ?_
    refine fr_al0 dX7_mark_60 ?_
    refine fr_geti (kz := 4) dX7_mark_61 flX7_24 hc rfl rfl ?_
    refine fr_if_eq (tgt := 71) dX7_mark_64 (by decide) (by omega) (fun h2 => ?_) (fun h2 => ?_)
    · skip
      refine fr_iconst dX7_mark_71 ?_
      exact fr_iret dX7_mark_72 rfl (fr_e (by first | exact congrArg (μ c) (by omega) | (rw [h1]; omega)) rfl)
    · skip
      refine fr_iconst dX7_mark_67 ?_
      refine fr_goto (tgt := 72) dX7_mark_68 (by decide) ?_
      exact fr_iret dX7_mark_72 rfl (fr_e (by first | exact congrArg (μ c) (by omega) | (rw [h1]; omega)) rfl)
  · skip
    refine fr_tswIn (tgt := 73) (off := 72) dX7_mark_1 (by omega) (by omega) (by omega) (by rw [h1]; rfl) (by decide) ?_
    refine fr_al0 dX7_mark_73 ?_
    refine fr_geti (kz := 5) dX7_mark_74 flX7_28 hc rfl rfl ?_
    refine fr_if_eq (tgt := 84) dX7_mark_77 (by decide) (by omega) (fun h3 => ?_) (fun h3 => ?_)
    · skip
      refine fr_iconst dX7_mark_84 ?_
      exact fr_iret dX7_mark_85 rfl (fr_e (by first | exact congrArg (μ c) (by omega) | (rw [h1]; omega)) rfl)
    · skip
      refine fr_iconst dX7_mark_80 ?_
      refine fr_goto (tgt := 85) dX7_mark_81 (by decide) ?_
      exact fr_iret dX7_mark_85 rfl (fr_e (by first | exact congrArg (μ c) (by omega) | (rw [h1]; omega)) rfl)
set_option maxRecDepth 20000 in
theorem kcX7_passYear {l : Launch} {κ : fr_Ka} {μ : fr_Me} {c : Int} (hc : fr_ob c 7) {nf : Int} (h4 : 0 ≤ μ c 4 ∧ μ c 4 ≤ 1) (hn : 0 ≤ nf ∧ nf ≤ 1) : fr_C l κ fmX7_passYear 1 [fr_r κ c, fr_i nf] μ (fr_Ev (sp_passT μ c nf)) := by
  refine fr_enter (by decide +kernel) (ls := [some (fr_r κ c), some (fr_i nf)]) rfl (Nat.le_of_ble_eq_true rfl) ?_
  refine fr_al0 dX7_passYear_0 ?_
  refine fr_al0 dX7_passYear_1 ?_
  refine fr_geti (kz := 2) dX7_passYear_2 flX7_18 hc rfl rfl ?_
  refine fr_put (kz := 3) dX7_passYear_5 fpX7_21 hc rfl rfl (fun h => by cases h) ?_
  refine fr_al0 dX7_passYear_8 ?_
  refine fr_al0 dX7_passYear_9 ?_
  refine fr_geti (kz := 4) dX7_passYear_10 flX7_24 hc rfl rfl ?_
  refine fr_put (kz := 5) dX7_passYear_13 fpX7_28 hc rfl rfl (fun _ => by first | omega | (simp [fr_up_get]; omega)) ?_
  refine fr_al0 dX7_passYear_16 ?_
  refine fr_al0 dX7_passYear_17 ?_
  refine fr_geti (kz := 1) dX7_passYear_18 flX7_15 hc rfl rfl ?_
  refine fr_put (kz := 2) dX7_passYear_21 fpX7_18 hc rfl rfl (fun h => by cases h) ?_
  refine fr_al0 dX7_passYear_24 ?_
  refine fr_il1 dX7_passYear_25 ?_
  refine fr_put (kz := 4) dX7_passYear_26 fpX7_24 hc rfl rfl (fun _ => by first | omega | (simp [fr_up_get]; omega)) ?_
  refine fr_al0 dX7_passYear_29 ?_
  refine fr_iconst dX7_passYear_30 ?_
  refine fr_put (kz := 1) dX7_passYear_31 fpX7_15 hc rfl rfl (fun h => by cases h) ?_
  exact fr_vret dX7_passYear_34 rfl (fr_ev (by simp [sp_passT, fr_up_get]))
set_option maxRecDepth 20000 in
theorem kcX7_shareOfLast {l : Launch} {κ : fr_Ka} {μ : fr_Me} {kind fell : Int} (rkind : -2147483648 ≤ kind ∧ kind ≤ 2147483647) (hf : 0 ≤ fell ∧ fell ≤ 1) : fr_C l κ fmX7_shareOfLast 1 [fr_i kind, fr_i fell] μ (fr_Ei (sp_sl kind fell) μ) := by
  refine fr_enter (by decide +kernel) (ls := [some (fr_i kind), some (fr_i fell), none]) rfl (Nat.le_of_ble_eq_true rfl) ?_
  refine fr_il1 dX7_shareOfLast_0 ?_
  refine fr_if_eq (tgt := 8) dX7_shareOfLast_1 (by decide) (by omega) (fun h1 => ?_) (fun h1 => ?_)
  · skip
    refine fr_iconst dX7_shareOfLast_8 ?_
    refine fr_is2 dX7_shareOfLast_9 rfl (Nat.le_of_ble_eq_true rfl) ?_
    refine fr_il0 dX7_shareOfLast_10 ?_
    rcases (by omega : kind < 1 ∨ 3 < kind ∨ kind = 1 ∨ kind = 2 ∨ kind = 3) with h2 | h2 | h2 | h2 | h2
    · skip
      refine fr_tswOut (tgt := 46) dX7_shareOfLast_11 (by omega) (Or.inl h2) (by decide) ?_
      refine fr_il2 dX7_shareOfLast_46 ?_
      exact fr_iret dX7_shareOfLast_47 rfl (fr_e (by unfold sp_sl; (try unfold sp_pl); (repeat' split) <;> first | rfl | omega) rfl)
    · skip
      refine fr_tswOut (tgt := 46) dX7_shareOfLast_11 (by omega) (Or.inr h2) (by decide) ?_
      refine fr_il2 dX7_shareOfLast_46 ?_
      exact fr_iret dX7_shareOfLast_47 rfl (fr_e (by unfold sp_sl; (try unfold sp_pl); (repeat' split) <;> first | rfl | omega) rfl)
    · skip
      refine fr_tswIn (tgt := 36) (off := 25) dX7_shareOfLast_11 (by omega) (by omega) (by omega) (by rw [h2]; rfl) (by decide) ?_
      refine fr_il2 dX7_shareOfLast_36 ?_
      refine fr_iconst dX7_shareOfLast_37 ?_
      refine fr_idiv dX7_shareOfLast_38 (by omega) (by omega) (by omega) (by omega) ?_
      exact fr_iret dX7_shareOfLast_39 rfl (fr_e (by unfold sp_sl; (try unfold sp_pl); (repeat' split) <;> first | rfl | omega) rfl)
    · skip
      refine fr_tswIn (tgt := 40) (off := 29) dX7_shareOfLast_11 (by omega) (by omega) (by omega) (by rw [h2]; rfl) (by decide) ?_
      refine fr_il2 dX7_shareOfLast_40 ?_
      refine fr_iconst dX7_shareOfLast_41 ?_
      refine fr_imul dX7_shareOfLast_42 ?_
      exact fr_iret dX7_shareOfLast_43 rfl (fr_e (by unfold sp_sl; (try unfold sp_pl); (repeat' split) <;> first | rfl | omega) rfl)
    · skip
      refine fr_tswIn (tgt := 44) (off := 33) dX7_shareOfLast_11 (by omega) (by omega) (by omega) (by rw [h2]; rfl) (by decide) ?_
      refine fr_iconst dX7_shareOfLast_44 ?_
      exact fr_iret dX7_shareOfLast_45 rfl (fr_e (by unfold sp_sl; (try unfold sp_pl); (repeat' split) <;> first | rfl | omega) rfl)
  · skip
    refine fr_iconst dX7_shareOfLast_4 ?_
    refine fr_goto (tgt := 9) dX7_shareOfLast_5 (by decide) ?_
    refine fr_is2 dX7_shareOfLast_9 rfl (Nat.le_of_ble_eq_true rfl) ?_
    refine fr_il0 dX7_shareOfLast_10 ?_
    rcases (by omega : kind < 1 ∨ 3 < kind ∨ kind = 1 ∨ kind = 2 ∨ kind = 3) with h3 | h3 | h3 | h3 | h3
    · skip
      refine fr_tswOut (tgt := 46) dX7_shareOfLast_11 (by omega) (Or.inl h3) (by decide) ?_
      refine fr_il2 dX7_shareOfLast_46 ?_
      exact fr_iret dX7_shareOfLast_47 rfl (fr_e (by unfold sp_sl; (try unfold sp_pl); (repeat' split) <;> first | rfl | omega) rfl)
    · skip
      refine fr_tswOut (tgt := 46) dX7_shareOfLast_11 (by omega) (Or.inr h3) (by decide) ?_
      refine fr_il2 dX7_shareOfLast_46 ?_
      exact fr_iret dX7_shareOfLast_47 rfl (fr_e (by unfold sp_sl; (try unfold sp_pl); (repeat' split) <;> first | rfl | omega) rfl)
    · skip
      refine fr_tswIn (tgt := 36) (off := 25) dX7_shareOfLast_11 (by omega) (by omega) (by omega) (by rw [h3]; rfl) (by decide) ?_
      refine fr_il2 dX7_shareOfLast_36 ?_
      refine fr_iconst dX7_shareOfLast_37 ?_
      refine fr_idiv dX7_shareOfLast_38 (by omega) (by omega) (by omega) (by omega) ?_
      exact fr_iret dX7_shareOfLast_39 rfl (fr_e (by unfold sp_sl; (try unfold sp_pl); (repeat' split) <;> first | rfl | omega) rfl)
    · skip
      refine fr_tswIn (tgt := 40) (off := 29) dX7_shareOfLast_11 (by omega) (by omega) (by omega) (by rw [h3]; rfl) (by decide) ?_
      refine fr_il2 dX7_shareOfLast_40 ?_
      refine fr_iconst dX7_shareOfLast_41 ?_
      refine fr_imul dX7_shareOfLast_42 ?_
      exact fr_iret dX7_shareOfLast_43 rfl (fr_e (by unfold sp_sl; (try unfold sp_pl); (repeat' split) <;> first | rfl | omega) rfl)
    · skip
      refine fr_tswIn (tgt := 44) (off := 33) dX7_shareOfLast_11 (by omega) (by omega) (by omega) (by rw [h3]; rfl) (by decide) ?_
      refine fr_iconst dX7_shareOfLast_44 ?_
      exact fr_iret dX7_shareOfLast_45 rfl (fr_e (by unfold sp_sl; (try unfold sp_pl); (repeat' split) <;> first | rfl | omega) rfl)
set_option maxRecDepth 20000 in
theorem kcX7_shareOfBefore {l : Launch} {κ : fr_Ka} {μ : fr_Me} {kind fell : Int} (rkind : -2147483648 ≤ kind ∧ kind ≤ 2147483647) (hf : 0 ≤ fell ∧ fell ≤ 1) : fr_C l κ fmX7_shareOfBefore 1 [fr_i kind, fr_i fell] μ (fr_Ei (sp_sb kind fell) μ) := by
  refine fr_enter (by decide +kernel) (ls := [some (fr_i kind), some (fr_i fell), none]) rfl (Nat.le_of_ble_eq_true rfl) ?_
  refine fr_il1 dX7_shareOfBefore_0 ?_
  refine fr_if_eq (tgt := 8) dX7_shareOfBefore_1 (by decide) (by omega) (fun h1 => ?_) (fun h1 => ?_)
  · skip
    refine fr_iconst dX7_shareOfBefore_8 ?_
    refine fr_is2 dX7_shareOfBefore_9 rfl (Nat.le_of_ble_eq_true rfl) ?_
    refine fr_il0 dX7_shareOfBefore_10 ?_
    rcases (by omega : kind = 1 ∨ kind = 3 ∨ (kind ≠ 1 ∧ kind ≠ 3)) with h2 | h2 | h2
    · skip
      refine fr_lsw (tgt := 36) (off := 25) dX7_shareOfBefore_11 (by omega) (by decide) (by rw [h2]; rfl) (by decide) ?_
      refine fr_il2 dX7_shareOfBefore_36 ?_
      refine fr_iconst dX7_shareOfBefore_37 ?_
      refine fr_idiv dX7_shareOfBefore_38 (by omega) (by omega) (by omega) (by omega) ?_
      exact fr_iret dX7_shareOfBefore_39 rfl (fr_e (by unfold sp_sb; (try unfold sp_pl); (repeat' split) <;> first | rfl | omega) rfl)
    · skip
      refine fr_lsw (tgt := 40) (off := 29) dX7_shareOfBefore_11 (by omega) (by decide) (by rw [h2]; rfl) (by decide) ?_
      refine fr_il2 dX7_shareOfBefore_40 ?_
      exact fr_iret dX7_shareOfBefore_41 rfl (fr_e (by unfold sp_sb; (try unfold sp_pl); (repeat' split) <;> first | rfl | omega) rfl)
    · skip
      refine fr_lsw (tgt := 42) (off := 31) dX7_shareOfBefore_11 (by omega) (by decide) (by simp [Op.lookupswitch.offset, h2]; omega) (by decide) ?_
      refine fr_iconst dX7_shareOfBefore_42 ?_
      exact fr_iret dX7_shareOfBefore_43 rfl (fr_e (by unfold sp_sb; (try unfold sp_pl); (repeat' split) <;> first | rfl | omega) rfl)
  · skip
    refine fr_iconst dX7_shareOfBefore_4 ?_
    refine fr_goto (tgt := 9) dX7_shareOfBefore_5 (by decide) ?_
    refine fr_is2 dX7_shareOfBefore_9 rfl (Nat.le_of_ble_eq_true rfl) ?_
    refine fr_il0 dX7_shareOfBefore_10 ?_
    rcases (by omega : kind = 1 ∨ kind = 3 ∨ (kind ≠ 1 ∧ kind ≠ 3)) with h3 | h3 | h3
    · skip
      refine fr_lsw (tgt := 36) (off := 25) dX7_shareOfBefore_11 (by omega) (by decide) (by rw [h3]; rfl) (by decide) ?_
      refine fr_il2 dX7_shareOfBefore_36 ?_
      refine fr_iconst dX7_shareOfBefore_37 ?_
      refine fr_idiv dX7_shareOfBefore_38 (by omega) (by omega) (by omega) (by omega) ?_
      exact fr_iret dX7_shareOfBefore_39 rfl (fr_e (by unfold sp_sb; (try unfold sp_pl); (repeat' split) <;> first | rfl | omega) rfl)
    · skip
      refine fr_lsw (tgt := 40) (off := 29) dX7_shareOfBefore_11 (by omega) (by decide) (by rw [h3]; rfl) (by decide) ?_
      refine fr_il2 dX7_shareOfBefore_40 ?_
      exact fr_iret dX7_shareOfBefore_41 rfl (fr_e (by unfold sp_sb; (try unfold sp_pl); (repeat' split) <;> first | rfl | omega) rfl)
    · skip
      refine fr_lsw (tgt := 42) (off := 31) dX7_shareOfBefore_11 (by omega) (by decide) (by simp [Op.lookupswitch.offset, h3]; omega) (by decide) ?_
      refine fr_iconst dX7_shareOfBefore_42 ?_
      exact fr_iret dX7_shareOfBefore_43 rfl (fr_e (by unfold sp_sb; (try unfold sp_pl); (repeat' split) <;> first | rfl | omega) rfl)
