/-! both objects are made: the memory at the start -/
theorem nw_mz (c : Int) (k : Nat) (h : nw_w 120 c k = false) : nw_m c k = 0 := by
  apply Classical.byContradiction
  intro hn
  have hx : (c = 4 ∧ k < 10) ∨ (c = 8 ∧ k < 10) ∨ (c = 1 ∧ k = 5) ∨ (c = 5 ∧ k = 5) ∨ (c = 33 ∧ k = 2) ∨ (c = 67 ∧ 64 ≤ k ∧ k < 75) ∨ (c = 75 ∧ k < 4) := by
    unfold nw_m at hn
    repeat' split at hn
    all_goals omega
  have k4 : ∀ k : Nat, k < 10 → nw_w 120 4 k = true := by decide +kernel
  have k8 : ∀ k : Nat, k < 10 → nw_w 120 8 k = true := by decide +kernel
  have k67 : ∀ k : Nat, k < 75 → 64 ≤ k → nw_w 120 67 k = true := by decide +kernel
  have k75 : ∀ k : Nat, k < 4 → nw_w 120 75 k = true := by decide +kernel
  have no : ¬ nw_w 120 c k = true := by rw [h]; decide
  rcases hx with ⟨rfl, e⟩ | ⟨rfl, e⟩ | ⟨rfl, rfl⟩ | ⟨rfl, rfl⟩ | ⟨rfl, rfl⟩ | ⟨rfl, e, e2⟩ | ⟨rfl, e⟩
  · exact no (k4 k e)
  · exact no (k8 k e)
  · exact no (by decide +kernel)
  · exact no (by decide +kernel)
  · exact no (by decide +kernel)
  · exact no (k67 k e2 e)
  · exact no (k75 k e)
def nw_chk (c : Nat) : Bool := match fr_sh (c : Int) with
  | .inl (a, n) => decide (a < 3) || (List.range n).all (fun k => nw_w 120 (c : Int) k)
  | .inr ci => (List.range (fr_nf ci)).all (fun k => nw_w 120 (c : Int) k || !fr_isR ci k)
theorem nw_chk_ok : ∀ c : Nat, c < 80 → nw_chk c = true := by decide +kernel
theorem nw_arr {cA : ClassId} {n : Nat} {f g : Nat → Value} (h : ∀ j, j < n → f j = g j) : arrV cA n f = arrV cA n g := by
  unfold arrV
  congr 2
  funext j
  exact h j.val j.isLt
theorem nw_end {κ : fr_Ka} {H : Heap} (h : nw_In κ 80 120 H) : fr_In κ nw_m H := by
  have hOk : fr_Ok κ := by
    refine ⟨fun i j hi hj he => ?_, fun i hi => by rw [h.1 i (by omega) (by omega)]; omega⟩
    rw [h.1 i (by omega) (by omega), h.1 j (by omega) (by omega)] at he
    have e : nw_o (i : Int) = nw_o (j : Int) := by omega
    have a := (nw_cinv i hi).1
    have b := (nw_cinv j hj).1
    rw [e, b] at a
    omega
  refine ⟨hOk, ?_, by rw [h.2.2.1]; omega, h.2.2.2⟩
  intro i q hq
  have hl : i < 80 := by
    have := (List.getElem?_eq_some_iff.mp hq).1
    simpa [fr_wl] using this
  simp only [fr_wl, List.getElem?_map, List.getElem?_range hl, Option.map_some] at hq
  cases hq
  obtain ⟨c1, c2⟩ := nw_cinv i hl
  have hat := h.2.1 (nw_o (i : Int)) _ (nw_at κ h.1 (c := (i : Int)) ⟨by omega, by omega, c2, c1, Nat.le_refl _⟩ 120)
  have hc := nw_chk_ok i hl
  have hw : ∀ k : Nat, (if nw_w 120 (i : Int) k = true then Int32.ofInt (nw_m (i : Int) k) else 0) = Int32.ofInt (nw_m (i : Int) k) := by
    intro k
    cases hk : nw_w 120 (i : Int) k with
    | true => simp
    | false => rw [nw_mz _ _ hk]; simp
  have hw2 : ∀ k : Nat, (if nw_w 120 (i : Int) k = true then Int64.ofInt (nw_m (i : Int) k) else 0) = Int64.ofInt (nw_m (i : Int) k) := by
    intro k
    cases hk : nw_w 120 (i : Int) k with
    | true => simp
    | false => rw [nw_mz _ _ hk]; simp
  cases hsh : fr_sh (i : Int) with
  | inl x =>
    obtain ⟨a, n⟩ := x
    rw [nw_chk, hsh] at hc
    rw [nw_ct, hsh] at hat
    rw [fr_ct, hsh]
    rcases a with _ | _ | _ | a
    · simp only [nw_ar, hw] at hat
      exact hat
    · simp only [nw_ar, hw2] at hat
      exact hat
    · simp only [nw_ar, hw] at hat
      exact hat
    · have hat2 : H[κ.2.2.1 (i : Int)]? = some (vp_cell (κ.2.1 (a + 3)) (n, nw_ar κ 120 (i : Int) (a + 3))) := hat
      show H[κ.2.2.1 (i : Int)]? = some (vp_cell (κ.2.1 (a + 3)) (n, fr_ar κ nw_m (i : Int) (a + 3)))
      rw [hat2]
      simp only [nw_ar, fr_ar, vp_cell_q]
      congr 1
      refine nw_arr (fun j hj => ?_)
      have : nw_w 120 (i : Int) j = true := by
        simp at hc
        exact hc.resolve_left (by omega) j hj
      rw [if_pos this]
  | inr ci =>
    rw [nw_chk, hsh] at hc
    rw [nw_ct, hsh] at hat
    rw [fr_ct, hsh]
    have e : (List.range (fr_nf ci)).map (nw_fv κ 120 (i : Int) ci) = (List.range (fr_nf ci)).map (fr_fv κ nw_m (i : Int) ci) := by
      apply List.map_congr_left
      intro k hk
      have hk2 := List.all_eq_true.mp hc k hk
      unfold nw_fv
      cases hkw : nw_w 120 (i : Int) k with
      | true => simp
      | false =>
        rw [hkw] at hk2
        have hr : fr_isR ci k = false := by simpa using hk2
        simp [fr_fv, hr, nw_mz _ _ hkw]
    simp only [e] at hat
    exact hat
theorem nw_m0 {c k : Int} (h : c ≠ 4 ∧ c ≠ 8 ∧ c ≠ 1 ∧ c ≠ 5 ∧ c ≠ 33 ∧ c ≠ 67 ∧ c ≠ 75) : nw_m c k = 0 := by
  unfold nw_m
  repeat' split
  all_goals omega
theorem nw_m67 {k : Int} (h : k < 64 ∨ 74 < k) : nw_m 67 k = 0 := by
  unfold nw_m
  repeat' split
  all_goals omega
theorem nw_mp {k : Int} (h0 : 0 ≤ k) (h1 : k < 10) : nw_m 67 (64 + k) = k := by
  unfold nw_m
  repeat' split
  all_goals omega
theorem nw_m75 {s : Int} (h0 : 0 ≤ s) (h1 : s < 4) : nw_m 75 s = -1 := by
  unfold nw_m
  repeat' split
  all_goals omega
theorem nw_St : fr_St nw_m := by
  refine ⟨⟨by decide, by decide, by decide, by decide, by decide, fun t t0 t1 => ?_, fun c c0 c1 => ?_, fun f f0 f1 => ?_⟩, ⟨by decide, by decide, by decide, by decide, by decide, fun t t0 t1 => ?_, fun c c0 c1 => ?_, fun f f0 f1 => ?_⟩, ⟨by decide, by decide, fun h => absurd h (by decide)⟩, ?_, ?_, fun s s0 s4 => ?_⟩
  · unfold fr_It sp_ok
    rw [nw_m67 (k := 1 + t) (by omega), nw_m67 (k := 7 + t) (by omega), nw_m67 (k := 13 + t) (by omega), nw_m67 (k := 19 + t) (by omega), nw_m67 (k := 25 + t) (by omega), nw_m67 (k := 31 + t) (by omega), nw_m67 (k := 37 + t) (by omega), nw_m67 (k := 0) (by omega), nw_m67 (k := 43) (by omega)]
    omega
  · unfold fr_Ic
    rw [nw_m67 (k := 44 + c) (by omega), nw_m67 (k := 49 + c) (by omega), nw_m67 (k := 54 + c) (by omega), nw_m67 (k := 59 + c) (by omega), nw_m67 (k := 43) (by omega)]
    omega
  · rw [nw_mp f0 f1]
    omega
  · unfold fr_Gt
    rw [nw_m67 (k := 1 + t) (by omega), nw_m67 (k := 7 + t) (by omega), nw_m67 (k := 13 + t) (by omega), nw_m67 (k := 19 + t) (by omega), nw_m67 (k := 25 + t) (by omega), nw_m67 (k := 31 + t) (by omega), nw_m67 (k := 37 + t) (by omega)]
    refine ⟨?_, ?_, ?_, ?_, ?_, ?_, ?_⟩ <;> exact nw_m0 (by omega)
  · unfold fr_Gc
    rw [nw_m67 (k := 44 + c) (by omega), nw_m67 (k := 49 + c) (by omega), nw_m67 (k := 54 + c) (by omega), nw_m67 (k := 59 + c) (by omega)]
    refine ⟨?_, ?_, ?_, ?_⟩ <;> exact nw_m0 (by omega)
  · rw [nw_mp f0 f1]
    unfold nw_m
    rw [if_pos ⟨Or.inl rfl, f0, f1⟩]
  · have e : ∀ c : Int, c = 10 ∨ c = 68 → nw_m c = fun _ => 0 := fun c hc => funext fun k => nw_m0 (by omega)
    have e9 : nw_m 9 4 = 0 := nw_m0 (by omega)
    have e66 : nw_m 66 3 = 0 := nw_m0 (by omega)
    unfold fr_Tq
    rw [e 10 (by omega), e 68 (by omega), e9, e66]
    refine ⟨rfl, rfl, ?_, fun i i0 i1 => ⟨Int.le_refl _, by show (0 : Int) ≤ 1000; decide⟩⟩
    unfold sp_let
    exact ⟨by decide, fun k k0 k1 => absurd k0 (by omega)⟩
  · refine ⟨fun s s0 s4 => ?_, fun k k0 k1 => by rw [nw_m0 (c := 77) (by omega)]; decide⟩
    rw [nw_m0 (c := 76) (by omega), nw_m75 s0 s4]
    decide
  · unfold sh_L
    rw [nw_m0 (c := 58 + s) (k := 1) (by omega), nw_m0 (c := 58 + s) (k := 2) (by omega), nw_m0 (c := 58 + s) (k := 3) (by omega), nw_m0 (c := 76) (by omega), nw_m75 s0 s4]
    refine ⟨by simp, rfl, by decide, by decide, fun k k0 k1 => ?_⟩
    rw [nw_m0 (c := 62 + s) (by omega), nw_m0 (c := 77) (by omega)]
