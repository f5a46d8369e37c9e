/-! truth values as ints; rows of references; small lemmas of the layout -/
noncomputable def fr_b (c : Prop) : Int := @ite Int c (Classical.propDecidable c) 1 0
theorem fr_bT {c : Prop} (h : c) : fr_b c = 1 := by unfold fr_b; exact if_pos h
theorem fr_bF {c : Prop} (h : ¬ c) : fr_b c = 0 := by unfold fr_b; exact if_neg h
theorem fr_b01 (c : Prop) : fr_b c = 0 ∨ fr_b c = 1 := (Classical.em c).elim (fun h => Or.inr (fr_bT h)) (fun h => Or.inl (fr_bF h))
theorem fr_bc {c d : Prop} (h : c ↔ d) : fr_b c = fr_b d := congrArg fr_b (propext h)
theorem fr_bR (c : Prop) : 0 ≤ fr_b c ∧ fr_b c ≤ 1 := by rcases fr_b01 c with h | h <;> rw [h] <;> decide
theorem fr_b1 {c : Prop} : fr_b c = 1 ↔ c := ⟨fun h => Classical.byContradiction fun n => absurd h (by rw [fr_bF n]; decide), fr_bT⟩
theorem fr_b0 {c : Prop} : fr_b c = 0 ↔ ¬ c := ⟨fun h n => absurd h (by rw [fr_bT n]; decide), fr_bF⟩
/-- the end of a method that answers an int: the same number, the same memory -/
theorem fr_e {z z' : Int} {μ μ' : fr_Me} (h : z = z') (hm : μ = μ') : fr_Ei z' μ' (some (fr_i z)) μ := ⟨by rw [h], hm⟩
theorem fr_ej {z z' : Int} {μ μ' : fr_Me} (h : z = z') (hm : μ = μ') : fr_Ej z' μ' (some (fr_j z)) μ := ⟨by rw [h], hm⟩
theorem fr_ev {μ μ' : fr_Me} (hm : μ = μ') : fr_Ev μ' none μ := ⟨rfl, hm⟩
theorem fr_pi {P : Int → fr_Me → Prop} {z : Int} {μ : fr_Me} (h : P z μ) : fr_Pi P (some (fr_i z)) μ := ⟨z, rfl, h⟩
theorem fr_pv {P : fr_Me → Prop} {μ : fr_Me} (h : P μ) : fr_Pv P none μ := ⟨rfl, h⟩
theorem fr_five {t : Int} (h0 : 0 ≤ t) (h1 : t < 6) : t = 0 ∨ t = 1 ∨ t = 2 ∨ t = 3 ∨ t = 4 ∨ t = 5 := by omega
theorem fr_obT {t : Int} (h0 : 0 ≤ t) (h1 : t < 6) : fr_ob (36 + t) 7 := by
  rcases fr_five h0 h1 with h | h | h | h | h | h <;> subst h <;> exact ⟨by decide, by decide, rfl⟩
theorem fr_obK {t : Int} (h0 : 0 ≤ t) (h1 : t < 6) : fr_ob (42 + t) 7 := by
  rcases fr_five h0 h1 with h | h | h | h | h | h <;> subst h <;> exact ⟨by decide, by decide, rfl⟩
theorem fr_obC {t : Int} (h0 : 0 ≤ t) (h1 : t < 5) : fr_ob (48 + t) 0 := by
  rcases fr_five h0 (by omega) with h | h | h | h | h | h <;> subst h <;> first | omega | exact ⟨by decide, by decide, rfl⟩
theorem fr_obD {t : Int} (h0 : 0 ≤ t) (h1 : t < 5) : fr_ob (53 + t) 0 := by
  rcases fr_five h0 (by omega) with h | h | h | h | h | h <;> subst h <;> first | omega | exact ⟨by decide, by decide, rfl⟩
theorem fr_obS {t : Int} (h0 : 0 ≤ t) (h1 : t < 4) : fr_ob (58 + t) 5 := by
  rcases fr_five h0 (by omega) with h | h | h | h | h | h <;> subst h <;> first | omega | exact ⟨by decide, by decide, rfl⟩
theorem fr_raS {t : Int} (h0 : 0 ≤ t) (h1 : t < 4) : fr_ra (62 + t) 1 16 := by
  rcases fr_five h0 (by omega) with h | h | h | h | h | h <;> subst h <;> first | omega | exact ⟨by decide, by decide, rfl, by decide⟩
section MORE
variable {l : Launch} {κ : fr_Ka} {mi : fr_Mi} {k : Nat} {Q : Option Value → fr_Me → Prop} {pc : Nat} {ls : List (Option Value)} {st : List Value} {μ : fr_Me}
theorem fr_aaT {i : Int} (hd : decode mi.2.1 pc = .ok (.aaload, 1)) (h0 : 0 ≤ i) (h1 : i < 6) (kk : fr_A l κ mi k Q (pc + 1) ls (fr_r κ (36 + i) :: st) μ) : fr_A l κ mi k Q pc ls (fr_i i :: fr_r κ 2 :: st) μ :=
  fr_aald (a := 3) (n := 6) hd ⟨by decide, by decide, rfl, by decide⟩ (by decide) h0 h1 (show (36 + (i.toNat : Int)) = 36 + i by omega) kk
theorem fr_aaC {i : Int} (hd : decode mi.2.1 pc = .ok (.aaload, 1)) (h0 : 0 ≤ i) (h1 : i < 5) (kk : fr_A l κ mi k Q (pc + 1) ls (fr_r κ (48 + i) :: st) μ) : fr_A l κ mi k Q pc ls (fr_i i :: fr_r κ 3 :: st) μ :=
  fr_aald (a := 4) (n := 5) hd ⟨by decide, by decide, rfl, by decide⟩ (by decide) h0 h1 (show (48 + (i.toNat : Int)) = 48 + i by omega) kk
theorem fr_aaK {i : Int} (hd : decode mi.2.1 pc = .ok (.aaload, 1)) (h0 : 0 ≤ i) (h1 : i < 6) (kk : fr_A l κ mi k Q (pc + 1) ls (fr_r κ (42 + i) :: st) μ) : fr_A l κ mi k Q pc ls (fr_i i :: fr_r κ 6 :: st) μ :=
  fr_aald (a := 3) (n := 6) hd ⟨by decide, by decide, rfl, by decide⟩ (by decide) h0 h1 (show (42 + (i.toNat : Int)) = 42 + i by omega) kk
theorem fr_aaD {i : Int} (hd : decode mi.2.1 pc = .ok (.aaload, 1)) (h0 : 0 ≤ i) (h1 : i < 5) (kk : fr_A l κ mi k Q (pc + 1) ls (fr_r κ (53 + i) :: st) μ) : fr_A l κ mi k Q pc ls (fr_i i :: fr_r κ 7 :: st) μ :=
  fr_aald (a := 4) (n := 5) hd ⟨by decide, by decide, rfl, by decide⟩ (by decide) h0 h1 (show (53 + (i.toNat : Int)) = 53 + i by omega) kk
theorem fr_aaS {i : Int} (hd : decode mi.2.1 pc = .ok (.aaload, 1)) (h0 : 0 ≤ i) (h1 : i < 4) (kk : fr_A l κ mi k Q (pc + 1) ls (fr_r κ (58 + i) :: st) μ) : fr_A l κ mi k Q pc ls (fr_i i :: fr_r κ 14 :: st) μ :=
  fr_aald (a := 5) (n := 4) hd ⟨by decide, by decide, rfl, by decide⟩ (by decide) h0 h1 (show (58 + (i.toNat : Int)) = 58 + i by omega) kk
theorem fr_getSI {t : Int} {idx : Nat} (hd : decode mi.2.1 pc = .ok (.getfield idx, 3)) (hf : fr_fl mi.1.cls idx 5 0) (h0 : 0 ≤ t) (h1 : t < 4) (kk : fr_A l κ mi k Q (pc + 3) ls (fr_r κ (62 + t) :: st) μ) : fr_A l κ mi k Q pc ls (fr_r κ (58 + t) :: st) μ :=
  fr_getr hd hf (fr_obS h0 h1) rfl (by rcases fr_five h0 (by omega) with h | h | h | h | h | h <;> subst h <;> first | omega | rfl) kk
theorem fr_ifb_eq {c : Prop} {off : Int} {tgt : Nat} (hd : decode mi.2.1 pc = .ok (.ifCond .eq off, 3)) (ht : (pc : Int) + off = (tgt : Int)) (kt : ¬ c → fr_A l κ mi k Q tgt ls st μ) (kf : c → fr_A l κ mi k Q (pc + 3) ls st μ) : fr_A l κ mi k Q pc ls (fr_i (fr_b c) :: st) μ :=
  fr_if_eq hd ht (by have := fr_bR c; omega) (fun h => kt (fr_b0.mp h)) (fun h => kf (Classical.byContradiction fun n => h (fr_b0.mpr n)))
theorem fr_ifb_ne {c : Prop} {off : Int} {tgt : Nat} (hd : decode mi.2.1 pc = .ok (.ifCond .ne off, 3)) (ht : (pc : Int) + off = (tgt : Int)) (kt : c → fr_A l κ mi k Q tgt ls st μ) (kf : ¬ c → fr_A l κ mi k Q (pc + 3) ls st μ) : fr_A l κ mi k Q pc ls (fr_i (fr_b c) :: st) μ :=
  fr_if_ne hd ht (by have := fr_bR c; omega) (fun h => kt (Classical.byContradiction fun n => h (fr_b0.mpr n))) (fun h => kf (fr_b0.mp h))
end MORE
