/-! fields, rows, entry, calls -/
theorem fr_up_eq (μ : fr_Me) (c k z : Int) : fr_up μ c k z c k = z := by simp [fr_up]
theorem fr_up_nc (μ : fr_Me) {c c' : Int} (k z : Int) (h : c' ≠ c) : fr_up μ c k z c' = μ c' := by
  funext k'
  simp [fr_up, h]
theorem fr_up_nk (μ : fr_Me) (c : Int) {k k' : Int} (z : Int) (h : k' ≠ k) : fr_up μ c k z c k' = μ c k' := by simp [fr_up, h]
theorem fr_wl_set (κ : fr_Ka) (μ μ' : fr_Me) {c : Int} (h0 : 0 ≤ c) (h1 : c < 80) {e : va_E} (he : fr_ct κ μ' c = e) (ho : ∀ c' : Int, c' ≠ c → fr_ct κ μ' c' = fr_ct κ μ c') : (fr_wl κ μ).set c.toNat (κ.2.2.1 c, e) = fr_wl κ μ' := by
  subst he
  have hc : ((c.toNat : Nat) : Int) = c := Int.toNat_of_nonneg h0
  have hl : c.toNat < 80 := by omega
  apply List.ext_getElem?
  intro i
  by_cases hi : i = c.toNat
  · subst hi
    rw [List.getElem?_set_self (by simp only [fr_wl, List.length_map, List.length_range]; exact hl)]
    rw [fr_wl_at κ μ' h0 h1]
  · rw [List.getElem?_set_ne (Ne.symm hi)]
    simp only [fr_wl, List.getElem?_map]
    cases hr : (List.range 80)[i]? with
    | none => rfl
    | some j =>
      have hj : j = i := by
        have := List.getElem?_eq_some_iff.mp hr
        obtain ⟨h, e⟩ := this
        simp at e
        exact e.symm
      subst hj
      have hne : ((j : Nat) : Int) ≠ c := by omega
      simp only [Option.map_some, ho _ hne]
theorem fr_ct_ne (κ : fr_Ka) {μ μ' : fr_Me} {c : Int} (h : μ' c = μ c) : fr_ct κ μ' c = fr_ct κ μ c := by
  unfold fr_ct
  cases fr_sh c with
  | inl x =>
    obtain ⟨a, n⟩ := x
    simp only [fr_ar]
    rcases a with _ | _ | _ | a <;> simp only [h]
  | inr ci =>
    have : fr_fv κ μ' c ci = fr_fv κ μ c ci := by funext j; simp only [fr_fv, h]
    simp only [this]
def fr_ob (c : Int) (ci : Nat) : Prop := 0 ≤ c ∧ c < 80 ∧ fr_sh c = .inr ci
def fr_ra (c : Int) (a n : Nat) : Prop := 0 ≤ c ∧ c < 80 ∧ fr_sh c = .inl (a, n) ∧ n ≤ 100000
theorem fr_ob_at (κ : fr_Ka) (μ : fr_Me) {c : Int} {ci : Nat} (h : fr_ob c ci) : (fr_wl κ μ)[c.toNat]? = some (κ.2.2.1 c, .inr (ci, (List.range (fr_nf ci)).map (fr_fv κ μ c ci))) := by
  rw [fr_wl_at κ μ h.1 h.2.1]
  simp [fr_ct, h.2.2]
theorem fr_ra_at (κ : fr_Ka) (μ : fr_Me) {c : Int} {a n : Nat} (h : fr_ra c a n) : (fr_wl κ μ)[c.toNat]? = some (κ.2.2.1 c, .inl (κ.2.1 a, n, fr_ar κ μ c a)) := by
  rw [fr_wl_at κ μ h.1 h.2.1]
  simp [fr_ct, h.2.2.1]
theorem fr_in0 : ∀ w ∈ u_ws RX0 TX0 4, w ∈ fr_tb := by decide +kernel
theorem fr_in1 : ∀ w ∈ u_ws RX1 TX1 8, w ∈ fr_tb := by decide +kernel
theorem fr_in2 : ∀ w ∈ u_ws RX2 TX2 7, w ∈ fr_tb := by decide +kernel
theorem fr_in3 : ∀ w ∈ u_ws RX3 TX3 11, w ∈ fr_tb := by decide +kernel
theorem fr_in4 : ∀ w ∈ u_ws RX4 TX4 5, w ∈ fr_tb := by decide +kernel
theorem fr_in5 : ∀ w ∈ u_ws RX5 TX5 4, w ∈ fr_tb := by decide +kernel
theorem fr_in6 : ∀ w ∈ u_ws RX6 TX6 6, w ∈ fr_tb := by decide +kernel
theorem fr_in7 : ∀ w ∈ u_ws RX7 TX7 7, w ∈ fr_tb := by decide +kernel
theorem fr_in8 : ∀ w ∈ u_ws RX8 TX8 3, w ∈ fr_tb := by decide +kernel
theorem fr_in9 : ∀ w ∈ u_ws RX9 TX9 6, w ∈ fr_tb := by decide +kernel
theorem fr_in10 : ∀ w ∈ u_ws RX10 TX10 11, w ∈ fr_tb := by decide +kernel
theorem fr_in11 : ∀ w ∈ u_ws RX11 TX11 18, w ∈ fr_tb := by decide +kernel
theorem fr_cls (ci : Nat) (q : vw_C) (h : vwCl[ci]? = some q) : (∀ w ∈ u_ws q.1 q.2.1 q.2.2, w ∈ fr_tb) ∧ q.2.2 = fr_nf ci ∧ ∃ ty0 : Nat → FieldType, (∀ k, k < q.2.2 → parseFieldDescriptor (q.2.1 k).2.2.1 = some (ty0 k)) ∧ ∀ a, a < q.2.2 → ∀ b, b < q.2.2 → a ≠ b → (q.2.1 a).2.1 ≠ (q.2.1 b).2.1 := by
  match ci, h with
  | 0, h => cases h; exact ⟨fr_in0, rfl, tyX0, tyX0_ok, nmX0⟩
  | 1, h => cases h; exact ⟨fr_in1, rfl, tyX1, tyX1_ok, nmX1⟩
  | 2, h => cases h; exact ⟨fr_in2, rfl, tyX2, tyX2_ok, nmX2⟩
  | 3, h => cases h; exact ⟨fr_in3, rfl, tyX3, tyX3_ok, nmX3⟩
  | 4, h => cases h; exact ⟨fr_in4, rfl, tyX4, tyX4_ok, nmX4⟩
  | 5, h => cases h; exact ⟨fr_in5, rfl, tyX5, tyX5_ok, nmX5⟩
  | 6, h => cases h; exact ⟨fr_in6, rfl, tyX6, tyX6_ok, nmX6⟩
  | 7, h => cases h; exact ⟨fr_in7, rfl, tyX7, tyX7_ok, nmX7⟩
  | 8, h => cases h; exact ⟨fr_in8, rfl, tyX8, tyX8_ok, nmX8⟩
  | 9, h => cases h; exact ⟨fr_in9, rfl, tyX9, tyX9_ok, nmX9⟩
  | 10, h => cases h; exact ⟨fr_in10, rfl, tyX10, tyX10_ok, nmX10⟩
  | 11, h => cases h; exact ⟨fr_in11, rfl, tyX11, tyX11_ok, nmX11⟩
  | n + 12, h => exact absurd h (by simp [vwCl])
/-- entry idx of own's pool names field k of class ci -/
def fr_fl (own : String) (idx ci k : Nat) : Prop := ∃ q : vw_C, vwCl[ci]? = some q ∧ k < q.2.2 ∧
  (Cond.fieldLink own idx (q.2.1 k).1 (q.2.1 k).2.1 (q.2.1 k).2.2.1 ∈ fr_tb ∨ Cond.fieldLinkNest own idx (q.2.1 k).1 (q.2.1 k).2.1 (q.2.1 k).2.2.1 RX10 ∈ fr_nw)
/-- .. which may be written; b: it is a boolean one -/
def fr_fp (own : String) (idx ci k : Nat) (b : Bool) : Prop := fr_fl own idx ci k ∧ ∀ q : vw_C, vwCl[ci]? = some q → (q.2.1 k).2.2.2 = false ∧ parseFieldDescriptor (q.2.1 k).2.2.1 = some (if b = true then .boolean else .int)
section HEAP
variable {l : Launch} {κ : fr_Ka} {mi : fr_Mi} {k : Nat} {Q : Option Value → fr_Me → Prop} {pc : Nat} {ls : List (Option Value)} {st : List Value} {μ : fr_Me}
theorem fr_getV {c : Int} {idx ci f : Nat} (hd : decode mi.2.1 pc = .ok (.getfield idx, 3)) (hf : fr_fl mi.1.cls idx ci f) (hc : fr_ob c ci) (kk : fr_A l κ mi k Q (pc + 3) ls (fr_fv κ μ c ci f :: st) μ) : fr_A l κ mi k Q pc ls (fr_r κ c :: st) μ := by
  intro p e s m args below meth c' hF H locs lsA hI hL hl
  obtain ⟨⟨C, T, N⟩, hq, hkN, hlink⟩ := hf
  obtain ⟨hin, hnf, -⟩ := fr_cls ci _ hq
  have K := kk p e s m args below meth c' hF H locs lsA hI hL hl
  have he := fr_ob_at κ μ hc
  have hv : ((List.range (fr_nf ci)).map (fr_fv κ μ c ci))[f]? = some (fr_fv κ μ c ci f) := by
    have : f < fr_nf ci := by rw [← hnf]; exact hkN
    simp [this]
  rcases hlink with hlink | hlink
  · exact va_get (Ts := fr_tb) hF.1 hF.2.1 hF.2.2.2.2.2.1 hin hF.2.2.2.2.1 hF.2.2.2.2.2.2.2.1 hI.2.1 c.toNat he hq f hkN (hF.2.2.2.2.2.1 _ hlink) (fun _ h9 => h9) hv hd K
  · exact va_getN (Ts := fr_tb) hF.1 hF.2.1 hF.2.2.2.2.2.1 hin hF.2.2.2.2.1 hF.2.2.2.2.2.2.2.1 hI.2.1 c.toNat he hq f hkN (va_Nw.use rfl (hF.2.2.2.2.2.2.2.2.1 _ hlink)) (fun _ h9 => h9) hv hd K
theorem fr_geti {c kz : Int} {idx ci f : Nat} (hd : decode mi.2.1 pc = .ok (.getfield idx, 3)) (hf : fr_fl mi.1.cls idx ci f) (hc : fr_ob c ci) (hr : fr_isR ci f = false) (hk : ((f : Nat) : Int) = kz) (kk : fr_A l κ mi k Q (pc + 3) ls (fr_i (μ c kz) :: st) μ) : fr_A l κ mi k Q pc ls (fr_r κ c :: st) μ := by
  refine fr_getV hd hf hc ?_
  subst hk
  rw [fr_fv, if_neg (by rw [hr]; decide)]
  exact kk
theorem fr_getr {c cz : Int} {idx ci f : Nat} (hd : decode mi.2.1 pc = .ok (.getfield idx, 3)) (hf : fr_fl mi.1.cls idx ci f) (hc : fr_ob c ci) (hr : fr_isR ci f = true) (hk : fr_rf c f = cz) (kk : fr_A l κ mi k Q (pc + 3) ls (fr_r κ cz :: st) μ) : fr_A l κ mi k Q pc ls (fr_r κ c :: st) μ := by
  refine fr_getV hd hf hc ?_
  subst hk
  rw [fr_fv, if_pos hr]
  exact kk
theorem fr_put {c kz z : Int} {idx ci f : Nat} {b : Bool} (hd : decode mi.2.1 pc = .ok (.putfield idx, 3)) (hf : fr_fp mi.1.cls idx ci f b) (hc : fr_ob c ci) (hr : fr_isR ci f = false) (hk : ((f : Nat) : Int) = kz) (hb : b = true → z = 0 ∨ z = 1) (kk : fr_A l κ mi k Q (pc + 3) ls st (fr_up μ c kz z)) : fr_A l κ mi k Q pc ls (fr_i z :: fr_r κ c :: st) μ := by
  intro p e s m args below meth c' hF H locs lsA hI hL hl
  subst hk
  obtain ⟨⟨⟨C, T, N⟩, hq, hkN, hlink⟩, hfp⟩ := hf
  obtain ⟨hfin, hpar⟩ := hfp _ hq
  obtain ⟨hin, hnf, ty0, hty, hnm⟩ := fr_cls ci _ hq
  have hfn : f < fr_nf ci := by rw [← hnf]; exact hkN
  have he := fr_ob_at κ μ hc
  have hn : narrow (if b = true then .boolean else .int) (fr_i z) = fr_i z := by
    cases b with
    | false => rfl
    | true => rcases hb rfl with rfl | rfl <;> rfl
  have hfit : fits (if b = true then .boolean else .int) (fr_i z) = true := by
    cases b with
    | false => rfl
    | true => rcases hb rfl with rfl | rfl <;> rfl
  have hset : (fr_wl κ μ).set c.toNat (κ.2.2.1 c, .inr (ci, ((List.range (fr_nf ci)).map (fr_fv κ μ c ci)).set f (fr_i z))) = fr_wl κ (fr_up μ c f z) := by
    refine fr_wl_set κ μ _ hc.1 hc.2.1 ?_ (fun c' h => fr_ct_ne κ (fr_up_nc μ _ _ h))
    simp only [fr_ct, hc.2.2]
    congr 2
    apply List.ext_getElem?
    intro i
    by_cases hi : i = f
    · subst hi
      rw [List.getElem?_set_self (by simpa using hfn)]
      simp [hfn, fr_fv, hr, fr_up_eq]
    · rw [List.getElem?_set_ne (Ne.symm hi)]
      simp only [List.getElem?_map]
      cases hri : (List.range (fr_nf ci))[i]? with
      | none => rfl
      | some j =>
        have hj : j = i := by
          obtain ⟨h, e⟩ := List.getElem?_eq_some_iff.mp hri
          simp at e
          exact e.symm
        subst hj
        simp only [Option.map_some, fr_fv]
        rw [fr_up_nk μ c z (by omega : ((j : Nat) : Int) ≠ (f : Int))]
  have go : ∀ (H1 : Heap) (locs1 : List Loc), va_P κ.1 vwCl ((fr_wl κ μ).set c.toNat (κ.2.2.1 c, .inr (ci, ((List.range (fr_nf ci)).map (fr_fv κ μ c ci)).set f (fr_i z)))) H1 → va_D (fr_fA κ) ((fr_wl κ μ).set c.toNat (κ.2.2.1 c, .inr (ci, ((List.range (fr_nf ci)).map (fr_fv κ μ c ci)).set f (fr_i z)))) → va_S (fr_fA κ) κ.2.2.2 H1 locs1 → W p l e (fr_rm k) s m args below meth c' H1 locs1 0 0 (MQ below (fr_Qc κ Q) args s 0 0 (fr_fA κ)) (F0 m (pc + 3) lsA st) := by
    intro H1 locs1 hP1 _ hS1
    rw [hset] at hP1
    obtain ⟨g1, g2⟩ := fr_In.of hI.1 hP1 hS1
    exact kk p e s m args below meth c' hF H1 locs1 lsA g1 g2 hl
  rcases hlink with hlink | hlink
  · exact va_put (Ts := fr_tb) hF.1 hF.2.1 hF.2.2.2.2.2.1 hin ty0 hty hnm hF.2.2.2.2.1 hF.2.2.2.2.2.2.2.1 hI.2.1 (fr_wD hI.1 μ) (hI.S hL) c.toNat he hq f hkN (hF.2.2.2.2.2.1 _ hlink) (fun _ h9 => h9) hfin hpar hn hfit (by simpa using hfn) hd go
  · exact va_putN (Ts := fr_tb) hF.1 hF.2.1 hF.2.2.2.2.2.1 hin ty0 hty hnm hF.2.2.2.2.1 hF.2.2.2.2.2.2.2.1 hI.2.1 (fr_wD hI.1 μ) (hI.S hL) c.toNat he hq f hkN (va_Nw.use rfl (hF.2.2.2.2.2.2.2.2.1 _ hlink)) (fun _ h9 => h9) hfin hpar hn hfit (by simpa using hfn) hd go
theorem fr_clamp {i : Int} (h0 : 0 ≤ i) (h1 : i ≤ 2147483647) : (Int32.ofInt i).toNatClampNeg = i.toNat := Int32.toNatClampNeg_ofInt_of_le (by omega) (by omega)
theorem fr_vin {i : Int} {n : Nat} (hn : n ≤ 100000) (h0 : 0 ≤ i) (h1 : i < n) : vp_in (Int32.ofInt i) n := by
  intro h
  rcases h with h | h
  · rw [show (0 : Int32) = Int32.ofInt 0 from rfl, fr_lt_iff (by omega) (by omega)] at h
    omega
  · rw [fr_clamp h0 (by omega)] at h
    omega
theorem fr_iald {c i : Int} {n : Nat} (hd : decode mi.2.1 pc = .ok (.iaload, 1)) (hc : fr_ra c 0 n) (h0 : 0 ≤ i) (h1 : i < n) (kk : fr_A l κ mi k Q (pc + 1) ls (fr_i (μ c i) :: st) μ) : fr_A l κ mi k Q pc ls (fr_i i :: fr_r κ c :: st) μ := by
  intro p e s m args below meth c' hF H locs lsA hI hL hl
  have hb := hc.2.2.2
  refine va_iald hF.1 hF.2.1 hF.2.2.2.2.2.2.2.1 hI.2.1 c.toNat 0 (fr_ra_at κ μ hc) rfl (fr_vin hb h0 h1) hd ?_
  have K := kk p e s m args below meth c' hF H locs lsA hI hL hl
  rw [fr_clamp h0 (by omega), Int.toNat_of_nonneg h0]
  exact K
theorem fr_zald {c i : Int} {n : Nat} (hd : decode mi.2.1 pc = .ok (.baload, 1)) (hc : fr_ra c 2 n) (h0 : 0 ≤ i) (h1 : i < n) (kk : fr_A l κ mi k Q (pc + 1) ls (fr_i (μ c i) :: st) μ) : fr_A l κ mi k Q pc ls (fr_i i :: fr_r κ c :: st) μ := by
  intro p e s m args below meth c' hF H locs lsA hI hL hl
  have hb := hc.2.2.2
  refine va_zald hF.1 hF.2.1 hF.2.2.2.2.2.2.2.1 hI.2.1 c.toNat 2 (fr_ra_at κ μ hc) rfl (fr_vin hb h0 h1) hd ?_
  have K := kk p e s m args below meth c' hF H locs lsA hI hL hl
  rw [fr_clamp h0 (by omega), Int.toNat_of_nonneg h0]
  exact K
theorem fr_lald {c i : Int} {n : Nat} (hd : decode mi.2.1 pc = .ok (.laload, 1)) (hc : fr_ra c 1 n) (h0 : 0 ≤ i) (h1 : i < n) (kk : fr_A l κ mi k Q (pc + 1) ls (fr_j (μ c i) :: st) μ) : fr_A l κ mi k Q pc ls (fr_i i :: fr_r κ c :: st) μ := by
  intro p e s m args below meth c' hF H locs lsA hI hL hl
  have hb := hc.2.2.2
  refine va_lald hF.1 hF.2.1 hF.2.2.2.2.2.2.2.1 hI.2.1 c.toNat 1 (fr_ra_at κ μ hc) rfl (fr_vin hb h0 h1) hd ?_
  have K := kk p e s m args below meth c' hF H locs lsA hI hL hl
  rw [fr_clamp h0 (by omega), Int.toNat_of_nonneg h0]
  exact K
theorem fr_aald {c i cz : Int} {a n : Nat} (hd : decode mi.2.1 pc = .ok (.aaload, 1)) (hc : fr_ra c a n) (ha : a = 3 ∨ a = 4 ∨ a = 5) (h0 : 0 ≤ i) (h1 : i < n) (hz : fr_rf c i.toNat = cz) (kk : fr_A l κ mi k Q (pc + 1) ls (fr_r κ cz :: st) μ) : fr_A l κ mi k Q pc ls (fr_i i :: fr_r κ c :: st) μ := by
  intro p e s m args below meth c' hF H locs lsA hI hL hl
  subst hz
  have hb := hc.2.2.2
  have K := kk p e s m args below meth c' hF H locs lsA hI hL hl
  have hat := fr_ra_at κ μ hc
  rcases ha with rfl | rfl | rfl
  · refine va_aldq hF.1 hF.2.1 hF.2.2.2.2.2.2.2.1 hI.2.1 c.toNat 3 hat rfl (fr_vin hb h0 h1) hd ?_
    rw [fr_clamp h0 (by omega)]
    exact K
  · refine va_aldq hF.1 hF.2.1 hF.2.2.2.2.2.2.2.1 hI.2.1 c.toNat 4 hat rfl (fr_vin hb h0 h1) hd ?_
    rw [fr_clamp h0 (by omega)]
    exact K
  · refine va_aldq hF.1 hF.2.1 hF.2.2.2.2.2.2.2.1 hI.2.1 c.toNat 5 hat rfl (fr_vin hb h0 h1) hd ?_
    rw [fr_clamp h0 (by omega)]
    exact K
theorem fr_iast {c i z : Int} {n : Nat} (hd : decode mi.2.1 pc = .ok (.iastore, 1)) (hc : fr_ra c 0 n) (h0 : 0 ≤ i) (h1 : i < n) (kk : fr_A l κ mi k Q (pc + 1) ls st (fr_up μ c i z)) : fr_A l κ mi k Q pc ls (fr_i z :: fr_i i :: fr_r κ c :: st) μ := by
  intro p e s m args below meth c' hF H locs lsA hI hL hl
  have hb := hc.2.2.2
  refine va_iast hF.1 hF.2.1 hF.2.2.2.2.2.2.2.1 hI.2.1 (fr_wD hI.1 μ) (hI.S hL) c.toNat 0 (fr_ra_at κ μ hc) rfl (fr_vin hb h0 h1) hd (fun H1 locs1 hP1 _ hS1 => ?_)
  rw [fr_wl_set κ μ (fr_up μ c i z) hc.1 hc.2.1 ?_ (fun c' h => fr_ct_ne κ (fr_up_nc μ _ _ h))] at hP1
  · obtain ⟨g1, g2⟩ := fr_In.of hI.1 hP1 hS1
    exact kk p e s m args below meth c' hF H1 locs1 lsA g1 g2 hl
  · simp only [fr_ct, hc.2.2.1, fr_ar]
    congr 3
    rw [fr_clamp h0 (by omega)]
    congr 1
    funext j
    unfold upd
    by_cases hj : j = i.toNat
    · subst hj
      rw [Int.toNat_of_nonneg h0, fr_up_eq]
      simp
    · rw [fr_up_nk μ c z (by omega : ((j : Nat) : Int) ≠ i)]
      simp [hj]
theorem fr_zast {c i z : Int} {n : Nat} (hd : decode mi.2.1 pc = .ok (.bastore, 1)) (hc : fr_ra c 2 n) (h0 : 0 ≤ i) (h1 : i < n) (hz : z = 0 ∨ z = 1) (kk : fr_A l κ mi k Q (pc + 1) ls st (fr_up μ c i z)) : fr_A l κ mi k Q pc ls (fr_i z :: fr_i i :: fr_r κ c :: st) μ := by
  intro p e s m args below meth c' hF H locs lsA hI hL hl
  have hb := hc.2.2.2
  refine va_zast hF.1 hF.2.1 hF.2.2.2.2.2.2.2.1 hI.2.1 (fr_wD hI.1 μ) (hI.S hL) c.toNat 2 (fr_ra_at κ μ hc) rfl (fr_vin hb h0 h1) hd (fun H1 locs1 hP1 _ hS1 => ?_)
  rw [fr_wl_set κ μ (fr_up μ c i z) hc.1 hc.2.1 ?_ (fun c' h => fr_ct_ne κ (fr_up_nc μ _ _ h))] at hP1
  · obtain ⟨g1, g2⟩ := fr_In.of hI.1 hP1 hS1
    exact kk p e s m args below meth c' hF H1 locs1 lsA g1 g2 hl
  · simp only [fr_ct, hc.2.2.1, fr_ar]
    congr 3
    rw [fr_clamp h0 (by omega), show vp_nar .boolean (Int32.ofInt z) = Int32.ofInt z by rcases hz with rfl | rfl <;> rfl]
    congr 1
    funext j
    unfold upd
    by_cases hj : j = i.toNat
    · subst hj
      rw [Int.toNat_of_nonneg h0, fr_up_eq]
      simp
    · rw [fr_up_nk μ c z (by omega : ((j : Nat) : Int) ≠ i)]
      simp [hj]
theorem fr_last {c i z : Int} {n : Nat} (hd : decode mi.2.1 pc = .ok (.lastore, 1)) (hc : fr_ra c 1 n) (h0 : 0 ≤ i) (h1 : i < n) (kk : fr_A l κ mi k Q (pc + 1) ls st (fr_up μ c i z)) : fr_A l κ mi k Q pc ls (fr_j z :: fr_i i :: fr_r κ c :: st) μ := by
  intro p e s m args below meth c' hF H locs lsA hI hL hl
  have hb := hc.2.2.2
  refine va_last hF.1 hF.2.1 hF.2.2.2.2.2.2.2.1 hI.2.1 (fr_wD hI.1 μ) (hI.S hL) c.toNat 1 (fr_ra_at κ μ hc) rfl (fr_vin hb h0 h1) hd (fun H1 locs1 hP1 _ hS1 => ?_)
  rw [fr_wl_set κ μ (fr_up μ c i z) hc.1 hc.2.1 ?_ (fun c' h => fr_ct_ne κ (fr_up_nc μ _ _ h))] at hP1
  · obtain ⟨g1, g2⟩ := fr_In.of hI.1 hP1 hS1
    exact kk p e s m args below meth c' hF H1 locs1 lsA g1 g2 hl
  · simp only [fr_ct, hc.2.2.1, fr_ar]
    congr 4
    rw [fr_clamp h0 (by omega)]
    congr 1
    funext j
    unfold vp_updL
    by_cases hj : j = i.toNat
    · subst hj
      rw [Int.toNat_of_nonneg h0, fr_up_eq]
      simp
    · rw [fr_up_nk μ c z (by omega : ((j : Nat) : Int) ≠ i)]
      simp [hj]
end HEAP
