/-! rows copied by the machine; Math.max; a row's length -/
def sp_cpy (μ : fr_Me) (cs sp cd dp n : Int) : fr_Me := fun c k => if c = cd ∧ dp ≤ k ∧ k < dp + n then μ cs (sp + (k - dp)) else μ c k
theorem sp_cpy_nc (μ : fr_Me) (cs sp : Int) {cd c : Int} (dp n : Int) (h : c ≠ cd) : sp_cpy μ cs sp cd dp n c = μ c := by
  funext k
  simp [sp_cpy, h]
def fr_cy (own : String) (idx : Nat) : Prop := Cond.methodLink own idx arraycopyName ∈ fr_tb ∧ Cond.native arraycopyName ∈ fr_tb ∧ Cond.static arraycopyName ∈ fr_tb ∧ Cond.initialized "java/lang/System" ∈ fr_tb
def fr_mx (own : String) (idx : Nat) : Prop := Cond.methodLink own idx Lib.Math.max.name ∈ fr_tb ∧ Cond.static Lib.Math.max.name ∈ fr_tb ∧ Cond.initialized "java/lang/Math" ∈ fr_tb ∧ Cond.code Lib.Math.max.name Lib.Math.max.code 2 (some .int) ∈ fr_tb
theorem fr_nfw : nativeFrameWords "java/lang/System" "arraycopy" 5 ≤ 40 := by decide +kernel
section JDK
variable {l : Launch} {κ : fr_Ka} {mi : fr_Mi} {k : Nat} {Q : Option Value → fr_Me → Prop} {pc idx : Nat} {ls : List (Option Value)} {st : List Value} {μ : fr_Me}
theorem fr_ct_cpy (κ : fr_Ka) (μ : fr_Me) {cs cd sp dp n : Int} {ns nd a : Nat} (hs : fr_ra cs a ns) (ht : fr_ra cd a nd) (h1 : 0 ≤ sp) (h2 : 0 ≤ dp) (h3 : 0 ≤ n) (h4 : sp + n ≤ ns) (h5 : dp + n ≤ nd) (i : Nat) :
    sp_cpy μ cs sp cd dp n cd (i : Int) = if dp.toNat ≤ i ∧ i < dp.toNat + n.toNat then μ cs ((sp.toNat + (i - dp.toNat) : Nat) : Int) else μ cd (i : Int) := by
  unfold sp_cpy
  by_cases h : dp.toNat ≤ i ∧ i < dp.toNat + n.toNat
  · rw [if_pos h, if_pos ⟨rfl, by omega, by omega⟩]
    congr 1
    omega
  · rw [if_neg h, if_neg (by omega)]
theorem fr_acpi {cs cd sp dp n : Int} {ns nd : Nat} (hd : decode mi.2.1 pc = .ok (.invokestatic idx, 3)) (hl : fr_cy mi.1.cls idx) (hs : fr_ra cs 0 ns) (ht : fr_ra cd 0 nd) (h1 : 0 ≤ sp) (h2 : 0 ≤ dp) (h3 : 0 ≤ n) (h4 : sp + n ≤ ns) (h5 : dp + n ≤ nd) (hk : 1 ≤ k) (hw : (st.map fun v => v.category).sum ≤ 8) (kk : fr_A l κ mi k Q (pc + 3) ls st (sp_cpy μ cs sp cd dp n)) : fr_A l κ mi k Q pc ls (fr_i n :: fr_i dp :: fr_r κ cd :: fr_i sp :: fr_r κ cs :: st) μ := by
  intro p e s m args below meth c hF H locs lsA hI hL hlo
  have hb := hs.2.2.2
  have hb2 := ht.2.2.2
  have hts := hF.2.2.2.2.2.1
  have z0 : ∀ x : Int, 0 ≤ x → x ≤ 100000 → ¬ Int32.ofInt x < 0 := fun x a b h => by
    rw [show (0 : Int32) = Int32.ofInt 0 from rfl, fr_lt_iff (by omega) (by omega)] at h
    omega
  refine va_copyi hF.1 hF.2.1 (hF.2.2.2.1.trans hlo.1.symm) hF.2.2.2.2.1 (hts _ hl.1) (hts _ hl.2.1) (hts _ hl.2.2.1) (hts _ hl.2.2.2) hF.2.2.2.2.2.2.2.1 hI.2.1 (fr_wD hI.1 μ) (hI.S hL) cs.toNat cd.toNat 0 0 (fr_ra_at κ μ hs) (fr_ra_at κ μ ht) rfl rfl rfl (z0 _ h1 (by omega)) (z0 _ h2 (by omega)) (z0 _ h3 (by omega)) (by rw [fr_clamp h1 (by omega), fr_clamp h3 (by omega)]; omega) (by rw [fr_clamp h2 (by omega), fr_clamp h3 (by omega)]; omega) (fun i _ => rfl) hk (by have := fr_nfw; show _ ≤ 64 * k; omega) hd (fun H1 locs1 hP1 _ hS1 => ?_)
  rw [fr_wl_set κ μ (sp_cpy μ cs sp cd dp n) ht.1 ht.2.1 ?_ (fun c' h => fr_ct_ne κ (sp_cpy_nc μ cs sp dp n h))] at hP1
  · obtain ⟨g1, g2⟩ := fr_In.of hI.1 hP1 hS1
    exact kk p e s m args below meth c hF H1 locs1 lsA g1 g2 hlo
  · simp only [fr_ct, ht.2.2.1, fr_ar]
    congr 3
    rw [fr_clamp h1 (by omega), fr_clamp h2 (by omega), fr_clamp h3 (by omega)]
    congr 1
    funext i
    rw [fr_ct_cpy κ μ hs ht h1 h2 h3 h4 h5 i]
    unfold va_cpy
    split <;> rfl
theorem fr_acpl {cs cd sp dp n : Int} {ns nd : Nat} (hd : decode mi.2.1 pc = .ok (.invokestatic idx, 3)) (hl : fr_cy mi.1.cls idx) (hs : fr_ra cs 1 ns) (ht : fr_ra cd 1 nd) (h1 : 0 ≤ sp) (h2 : 0 ≤ dp) (h3 : 0 ≤ n) (h4 : sp + n ≤ ns) (h5 : dp + n ≤ nd) (hk : 1 ≤ k) (hw : (st.map fun v => v.category).sum ≤ 8) (kk : fr_A l κ mi k Q (pc + 3) ls st (sp_cpy μ cs sp cd dp n)) : fr_A l κ mi k Q pc ls (fr_i n :: fr_i dp :: fr_r κ cd :: fr_i sp :: fr_r κ cs :: st) μ := by
  intro p e s m args below meth c hF H locs lsA hI hL hlo
  have hb := hs.2.2.2
  have hb2 := ht.2.2.2
  have hts := hF.2.2.2.2.2.1
  have z0 : ∀ x : Int, 0 ≤ x → x ≤ 100000 → ¬ Int32.ofInt x < 0 := fun x a b h => by
    rw [show (0 : Int32) = Int32.ofInt 0 from rfl, fr_lt_iff (by omega) (by omega)] at h
    omega
  refine va_copyl hF.1 hF.2.1 (hF.2.2.2.1.trans hlo.1.symm) hF.2.2.2.2.1 (hts _ hl.1) (hts _ hl.2.1) (hts _ hl.2.2.1) (hts _ hl.2.2.2) hF.2.2.2.2.2.2.2.1 hI.2.1 (fr_wD hI.1 μ) (hI.S hL) cs.toNat cd.toNat 1 1 (fr_ra_at κ μ hs) (fr_ra_at κ μ ht) rfl rfl rfl (z0 _ h1 (by omega)) (z0 _ h2 (by omega)) (z0 _ h3 (by omega)) (by rw [fr_clamp h1 (by omega), fr_clamp h3 (by omega)]; omega) (by rw [fr_clamp h2 (by omega), fr_clamp h3 (by omega)]; omega) (fun i _ => rfl) hk (by have := fr_nfw; show _ ≤ 64 * k; omega) hd (fun H1 locs1 hP1 _ hS1 => ?_)
  rw [fr_wl_set κ μ (sp_cpy μ cs sp cd dp n) ht.1 ht.2.1 ?_ (fun c' h => fr_ct_ne κ (sp_cpy_nc μ cs sp dp n h))] at hP1
  · obtain ⟨g1, g2⟩ := fr_In.of hI.1 hP1 hS1
    exact kk p e s m args below meth c hF H1 locs1 lsA g1 g2 hlo
  · simp only [fr_ct, ht.2.2.1, fr_ar]
    congr 4
    rw [fr_clamp h1 (by omega), fr_clamp h2 (by omega), fr_clamp h3 (by omega)]
    congr 1
    funext i
    rw [fr_ct_cpy κ μ hs ht h1 h2 h3 h4 h5 i]
    unfold va_cpy
    split <;> rfl
theorem fr_mmax {a b : Int} (hd : decode mi.2.1 pc = .ok (.invokestatic idx, 3)) (hl : fr_mx mi.1.cls idx) (ha : -2147483648 ≤ a ∧ a ≤ 2147483647) (hb : -2147483648 ≤ b ∧ b ≤ 2147483647) (hk : 1 ≤ k) (hw : (st.map fun v => v.category).sum ≤ 8) (kk : fr_A l κ mi k Q (pc + 3) ls (fr_i (if a < b then b else a) :: st) μ) : fr_A l κ mi k Q pc ls (fr_i b :: fr_i a :: st) μ := by
  intro p e s m args below meth c hF H locs lsA hI hL hlo
  have hts := hF.2.2.2.2.2.1
  refine va_mmax hF.1 hF.2.1 (hF.2.2.2.1.trans hlo.1.symm) hF.2.2.2.2.1 (hts _ hl.1) (hts _ hl.2.1) (hts _ hl.2.2.1) (hts _ hl.2.2.2) hk (by show _ ≤ 64 * k; omega) (Nat.zero_le _) (Nat.zero_le _) hd ?_
  have K := kk p e s m args below meth c hF H locs lsA hI hL hlo
  have e1 : (if Int32.ofInt a < Int32.ofInt b then Int32.ofInt b else Int32.ofInt a) = Int32.ofInt (if a < b then b else a) := by
    simp only [fr_lt_iff ha hb]
    split <;> rfl
  rw [e1]
  exact K
theorem fr_alen {c : Int} {a n : Nat} (hd : decode mi.2.1 pc = .ok (.arraylength, 1)) (hc : fr_ra c a n) (ha : a < 6) (kk : fr_A l κ mi k Q (pc + 1) ls (fr_i (n : Int) :: st) μ) : fr_A l κ mi k Q pc ls (fr_r κ c :: st) μ := by
  intro p e s m args below meth c' hF H locs lsA hI hL hlo
  have K := kk p e s m args below meth c' hF H locs lsA hI hL hlo
  obtain ⟨ty, hty⟩ : ∃ ty, (fr_tys κ)[a]? = some (κ.2.1 a, ty) := by
    rcases (by omega : a = 0 ∨ a = 1 ∨ a = 2 ∨ a = 3 ∨ a = 4 ∨ a = 5) with h | h | h | h | h | h <;> subst h <;> exact ⟨_, rfl⟩
  exact va_alen hF.1 hF.2.1 hF.2.2.2.2.2.2.2.1 hI.2.1 c.toNat a (fr_ra_at κ μ hc) hty (Int32.ofInt_eq_ofNat (n := n)).symm hd K
end JDK
