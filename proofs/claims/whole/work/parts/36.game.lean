/-! the game: the pile -/
set_option maxRecDepth 20000 in
theorem gm_step {l : Launch} {κ : fr_Ka} {Q : Option Value → fr_Me → Prop} {μ : fr_Me} (hI : fr_I (μ 67)) {p st set : Int} (hp : 0 ≤ p ∧ p ≤ 14) (hst : 0 ≤ st ∧ st < 4096) (e : μ 74 p = st) (hW : ∀ t c, 0 ≤ t → t < μ 67 0 → 0 ≤ c → c < 6 → μ 71 (6 * t + c) = sp_wt (μ 67) t c) (hK : ∀ s, 0 ≤ s → s < 4096 → (μ 73 s = 0 ∨ μ 73 s = 1) ∧ (μ 73 s = 1 → μ 72 s = sp_G (μ 67) set s)) (k1 : fr_A l κ fmX11_gameOf 6 Q 35 [some (fr_r κ 66), some (fr_i set), some (fr_i (p + -1)), none] [] (fr_up (fr_up μ 72 st (sp_G (μ 67) set st)) 73 st 1)) (k2 : ∀ z, 0 ≤ z → z < 4096 → μ 73 z = 0 → sp_rk (μ 67) set z < sp_rk (μ 67) set st → fr_A l κ fmX11_gameOf 6 Q 35 [some (fr_r κ 66), some (fr_i set), some (fr_i (p + 1)), none] [] (fr_up μ 74 (p + 1) z)) : fr_A l κ fmX11_gameOf 6 Q 35 [some (fr_r κ 66), some (fr_i set), some (fr_i (p)), none] [] (μ) := by
  subst e
  refine fr_il2 dX11_gameOf_35 ?_
  refine fr_if_lt (tgt := 77) dX11_gameOf_36 (by decide) (by omega) (fun h1 => ?_) (fun h1 => ?_)
  · skip
    exfalso; omega
  · skip
    refine fr_al0 dX11_gameOf_39 ?_
    refine fr_al0 dX11_gameOf_40 ?_
    refine fr_getr (cz := 74) dX11_gameOf_41 flX11_32 ⟨by decide, by decide, rfl⟩ rfl rfl ?_
    refine fr_il2 dX11_gameOf_44 ?_
    refine fr_iald dX11_gameOf_45 ⟨by decide, by decide, rfl, by decide⟩ (by omega) (by omega) ?_
    refine fr_il1 dX11_gameOf_46 ?_
    refine fr_cVP (mi' := fmX11_knows) dX11_gameOf_47 mlX11_210 mvX11_knows ⟨11, _, ⟨by decide, by decide, rfl⟩, rfl, rfl⟩ (Nat.le_of_ble_eq_true rfl) (kcX11_knows hI hst hW hK) rfl rfl (Nat.le_of_ble_eq_true rfl) (fun z m hz => ?_)
    rcases hz with hz | hz
    · skip
      obtain ⟨rfl, rfl⟩ := hz
      refine fr_is3 dX11_gameOf_50 rfl (Nat.le_of_ble_eq_true rfl) ?_
      refine fr_il2 dX11_gameOf_51 ?_
      refine fr_il3 dX11_gameOf_52 ?_
      refine fr_if_ge (tgt := 60) dX11_gameOf_53 (by decide) (by decide) (fun h2 => absurd h2 (by decide)) (fun _ => ?_)
      refine fr_iconst dX11_gameOf_56 ?_
      refine fr_goto (tgt := 61) dX11_gameOf_57 (by decide) ?_
      refine fr_iadd dX11_gameOf_61 ?_
      refine fr_is2 dX11_gameOf_62 rfl (Nat.le_of_ble_eq_true rfl) ?_
      refine fr_il3 dX11_gameOf_63 ?_
      refine fr_if_lt (tgt := 74) dX11_gameOf_64 (by decide) (by decide) (fun _ => ?_) (fun h3 => absurd h3 (by decide))
      refine fr_goto (tgt := 35) dX11_gameOf_74 (by decide) ?_
      exact fr_wk k1 ⟨rfl, rfl, rfl, trivial⟩
    · skip
      obtain ⟨rfl, z0, z1, z2, z3⟩ := hz
      refine fr_is3 dX11_gameOf_50 rfl (Nat.le_of_ble_eq_true rfl) ?_
      refine fr_il2 dX11_gameOf_51 ?_
      refine fr_il3 dX11_gameOf_52 ?_
      refine fr_if_ge (tgt := 60) dX11_gameOf_53 (by decide) (by omega) (fun h4 => ?_) (fun h4 => ?_)
      · skip
        refine fr_iconst dX11_gameOf_60 ?_
        refine fr_iadd dX11_gameOf_61 ?_
        refine fr_is2 dX11_gameOf_62 rfl (Nat.le_of_ble_eq_true rfl) ?_
        refine fr_il3 dX11_gameOf_63 ?_
        refine fr_if_lt (tgt := 74) dX11_gameOf_64 (by decide) (by omega) (fun h5 => ?_) (fun h5 => ?_)
        · skip
          exfalso; omega
        · skip
          refine fr_al0 dX11_gameOf_67 ?_
          refine fr_getr (cz := 74) dX11_gameOf_68 flX11_32 ⟨by decide, by decide, rfl⟩ rfl rfl ?_
          refine fr_il2 dX11_gameOf_71 ?_
          refine fr_il3 dX11_gameOf_72 ?_
          refine fr_iast dX11_gameOf_73 ⟨by decide, by decide, rfl, by decide⟩ (by omega) (by omega) ?_
          refine fr_goto (tgt := 35) dX11_gameOf_74 (by decide) ?_
          exact fr_wk (k2 _ z0 z1 z2 z3) ⟨rfl, rfl, rfl, trivial⟩
      · skip
        exfalso; omega
