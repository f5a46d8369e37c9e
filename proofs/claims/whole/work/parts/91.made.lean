/-! THE MAKING OF BOTH OBJECTS. Cells are made and written in one order alone: the state is (n, t): n cells are made, t writes done -/
def nw_cL : List Int := [0, 1, 2, 3, 4, 36, 37, 38, 39, 40, 41, 48, 49, 50, 51, 52, 5, 6, 7, 8, 42, 43, 44, 45, 46, 47, 53, 54, 55, 56, 57, 9, 10, 11, 12, 13, 14, 15, 16, 17, 18, 19, 20, 21, 22, 23, 24, 25, 26, 27, 28, 29, 30, 31, 32, 33, 34, 35, 58, 62, 59, 63, 60, 64, 61, 65, 66, 67, 68, 69, 70, 71, 72, 73, 74, 75, 76, 77, 78, 79]
def nw_c (j : Nat) : Int := nw_cL.getD j 0
def nw_oL : List Nat := [0, 1, 2, 3, 4, 16, 17, 18, 19, 31, 32, 33, 34, 35, 36, 37, 38, 39, 40, 41, 42, 43, 44, 45, 46, 47, 48, 49, 50, 51, 52, 53, 54, 55, 56, 57, 5, 6, 7, 8, 9, 10, 20, 21, 22, 23, 24, 25, 11, 12, 13, 14, 15, 26, 27, 28, 29, 30, 58, 60, 62, 64, 59, 61, 63, 65, 66, 67, 68, 69, 70, 71, 72, 73, 74, 75, 76, 77, 78, 79]
def nw_o (c : Int) : Nat := nw_oL.getD c.toNat 0
/-- the writes in their order -/
def nw_WL : List (Int × Nat) := [(1, 0), (1, 1), (1, 2), (1, 5), (2, 0), (2, 1), (2, 2), (2, 3), (2, 4), (2, 5), (3, 0), (3, 1), (3, 2), (3, 3), (3, 4), (4, 0), (4, 1), (4, 2), (4, 3), (4, 4), (4, 5), (4, 6), (4, 7), (4, 8), (4, 9), (0, 0), (5, 0), (5, 1), (5, 2), (5, 5), (6, 0), (6, 1), (6, 2), (6, 3), (6, 4), (6, 5), (7, 0), (7, 1), (7, 2), (7, 3), (7, 4), (8, 0), (8, 1), (8, 2), (8, 3), (8, 4), (8, 5), (8, 6), (8, 7), (8, 8), (8, 9), (0, 1), (9, 0), (9, 1), (9, 2), (9, 3), (0, 3), (0, 4), (15, 0), (15, 1), (15, 2), (15, 3), (15, 4), (15, 5), (15, 6), (15, 7), (0, 5), (24, 1), (24, 2), (24, 0), (0, 6), (27, 1), (27, 2), (27, 3), (27, 0), (0, 7), (31, 1), (31, 0), (0, 8), (33, 1), (33, 2), (33, 0), (0, 9), (0, 10), (58, 0), (14, 0), (59, 0), (14, 1), (60, 0), (14, 2), (61, 0), (14, 3), (66, 0), (66, 2), (66, 6), (66, 7), (66, 8), (66, 10), (66, 11), (66, 12), (66, 13), (66, 14), (66, 15), (66, 16), (66, 17), (67, 74), (67, 64), (67, 65), (67, 66), (67, 67), (67, 68), (67, 69), (67, 70), (67, 71), (67, 72), (67, 73), (75, 0), (75, 1), (75, 2), (75, 3)]
/-- how many fields and elements the first n cells have -/
def nw_SL : List Nat := [0, 11, 19, 25, 30, 40, 47, 54, 61, 68, 75, 82, 86, 90, 94, 98, 102, 110, 116, 121, 131, 138, 145, 152, 159, 166, 173, 177, 181, 185, 189, 193, 199, 259, 265, 271, 277, 281, 292, 298, 304, 310, 316, 323, 359, 365, 371, 378, 602, 608, 614, 624, 630, 636, 639, 4735, 4740, 4748, 4754, 4758, 4774, 4778, 4794, 4798, 4814, 4818, 4834, 4852, 5006, 5066, 5084, 5090, 5126, 9222, 13318, 13334, 13338, 13342, 13406, 13422, 18246]
def nw_S (n : Nat) : Nat := nw_SL.getD n 0
/-- the memory at the end of it -/
def nw_m : fr_Me := fun c k => if (c = 4 ∨ c = 8) ∧ 0 ≤ k ∧ k < 10 then k else if (c = 1 ∨ c = 5) ∧ k = 5 then 1 else if c = 33 ∧ k = 2 then 1 else if c = 67 ∧ k = 74 then 1 else if c = 67 ∧ 64 ≤ k ∧ k < 74 then k - 64 else if c = 75 ∧ 0 ≤ k ∧ k < 4 then -1 else 0
def nw_w (t : Nat) (c : Int) (k : Nat) : Bool := decide ((c, k) ∈ nw_WL.take t)
def nw_fv (κ : fr_Ka) (t : Nat) (c : Int) (ci k : Nat) : Value := if nw_w t c k = true then fr_fv κ nw_m c ci k else if fr_isR ci k = true then .null else fr_i 0
def nw_ar (κ : fr_Ka) (t : Nat) (c : Int) (a : Nat) : (Nat → Int32) ⊕ (Nat → Int64) ⊕ (Nat → UInt32) ⊕ (Nat → UInt64) ⊕ (Nat → Option Nat) := match a with
  | 0 => .inl (fun k => if nw_w t c k = true then Int32.ofInt (nw_m c k) else 0)
  | 1 => .inr (.inl (fun k => if nw_w t c k = true then Int64.ofInt (nw_m c k) else 0))
  | 2 => .inl (fun k => if nw_w t c k = true then Int32.ofInt (nw_m c k) else 0)
  | _ => .inr (.inr (.inr (.inr (fun k => if nw_w t c k = true then some (κ.2.2.1 (fr_rf c k)) else none))))
def nw_ct (κ : fr_Ka) (t : Nat) (c : Int) : va_E := match fr_sh c with
  | .inl (a, n) => .inl (κ.2.1 a, n, nw_ar κ t c a)
  | .inr ci => .inr (ci, (List.range (fr_nf ci)).map (nw_fv κ t c ci))
def nw_wl (κ : fr_Ka) (n t : Nat) : va_W := (List.range n).map (fun j : Nat => (κ.2.2.2.size + j, nw_ct κ t (nw_c j)))
/-- the layout: the addresses behind the old heap, in this order -/
def nw_K (κ : fr_Ka) : Prop := ∀ c : Int, 0 ≤ c → c < 80 → κ.2.2.1 c = κ.2.2.2.size + nw_o c
def nw_In (κ : fr_Ka) (n t : Nat) (H : Heap) : Prop := nw_K κ ∧ va_P κ.1 vwCl (nw_wl κ n t) H ∧ H.size = κ.2.2.2.size + n ∧ ∀ q : Nat, q < κ.2.2.2.size → H[q]? = κ.2.2.2[q]?
abbrev nw_al (n : Nat) (c : Int) : Prop := 0 ≤ c ∧ c < 80 ∧ nw_o c < n ∧ nw_c (nw_o c) = c ∧ n ≤ 80
abbrev nw_nx (n t : Nat) (c : Int) : Prop := 0 ≤ c ∧ c < 80 ∧ nw_o c = n ∧ nw_c n = c ∧ ∀ q ∈ nw_WL.take t, q.1 ≠ c
abbrev nw_ok (n0 n n1 N : Nat) : Prop := n0 ≤ n ∧ n + 1 ≤ n1 ∧ nw_S (n + 1) = nw_S n + N ∧ nw_S n0 ≤ nw_S n ∧ nw_S (n + 1) ≤ nw_S n1
abbrev nw_oc (n0 n n' n1 : Nat) : Prop := n0 ≤ n ∧ n ≤ n' ∧ n' ≤ n1 ∧ nw_S n0 ≤ nw_S n ∧ nw_S n ≤ nw_S n' ∧ nw_S n' ≤ nw_S n1
theorem nw_inv : ∀ j : Nat, j < 80 → nw_o (nw_c j) = j := by decide +kernel
theorem nw_cinv : ∀ j : Nat, j < 80 → nw_c (nw_o (j : Int)) = (j : Int) ∧ nw_o (j : Int) < 80 := by decide +kernel
theorem nw_ws {t : Nat} {c : Int} {k : Nat} (h : nw_WL[t]? = some (c, k)) (c' : Int) (k' : Nat) : nw_w (t + 1) c' k' = true ↔ nw_w t c' k' = true ∨ (c' = c ∧ k' = k) := by
  unfold nw_w
  rw [List.take_add_one, h]
  simp
theorem nw_wF {t : Nat} {c : Int} (h : ∀ q ∈ nw_WL.take t, q.1 ≠ c) (k : Nat) : nw_w t c k = false := by
  unfold nw_w
  rw [decide_eq_false_iff_not]
  exact fun hm => h _ hm rfl
theorem nw_ct_ne (κ : fr_Ka) {t : Nat} {c c' : Int} {k : Nat} (h : nw_WL[t]? = some (c, k)) (hn : c' ≠ c) : nw_ct κ (t + 1) c' = nw_ct κ t c' := by
  have hw : ∀ k', nw_w (t + 1) c' k' = nw_w t c' k' := by
    intro k'
    rw [Bool.eq_iff_iff, nw_ws h]
    exact ⟨fun x => x.elim id (fun y => absurd y.1 hn), Or.inl⟩
  unfold nw_ct
  cases fr_sh c' with
  | inl x =>
    obtain ⟨a, n⟩ := x
    simp only [nw_ar]
    rcases a with _ | _ | _ | a <;> simp only [hw]
  | inr ci =>
    have : nw_fv κ (t + 1) c' ci = nw_fv κ t c' ci := by funext j; simp only [nw_fv, hw]
    simp only [this]
theorem nw_at (κ : fr_Ka) (hK : nw_K κ) {n : Nat} {c : Int} (h : nw_al n c) (t : Nat) : (nw_wl κ n t)[nw_o c]? = some (κ.2.2.1 c, nw_ct κ t c) := by
  rw [hK c h.1 h.2.1]
  simp only [nw_wl, List.getElem?_map, List.getElem?_range h.2.2.1, Option.map_some, h.2.2.2.1]
theorem nw_set (κ : fr_Ka) (hK : nw_K κ) {n t k : Nat} {c : Int} (h : nw_al n c) (hw : nw_WL[t]? = some (c, k)) {e : va_E} (he : nw_ct κ (t + 1) c = e) : (nw_wl κ n t).set (nw_o c) (κ.2.2.1 c, e) = nw_wl κ n (t + 1) := by
  subst he
  apply List.ext_getElem?
  intro i
  by_cases hi : i = nw_o c
  · subst hi
    rw [List.getElem?_set_self (by simp only [nw_wl, List.length_map, List.length_range]; exact h.2.2.1)]
    exact (nw_at κ hK h (t + 1)).symm
  · rw [List.getElem?_set_ne (Ne.symm hi)]
    simp only [nw_wl, List.getElem?_map]
    cases hr : (List.range n)[i]? with
    | none => rfl
    | some j =>
      obtain ⟨hl, e⟩ := List.getElem?_eq_some_iff.mp hr
      simp at e hl
      subst e
      have hne : nw_c i ≠ c := fun x => hi (by rw [← x, nw_inv i (by have := h.2.2.2.2; omega)])
      simp only [Option.map_some, nw_ct_ne κ hw hne]
theorem nw_D (κ : fr_Ka) (n t : Nat) : va_D (fr_fA κ) (nw_wl κ n t) := by
  have key : ∀ (i : Nat) (p : Nat × va_E), (nw_wl κ n t)[i]? = some p → p.1 = κ.2.2.2.size + i := by
    intro i p hp
    have hl : i < n := by
      have := (List.getElem?_eq_some_iff.mp hp).1
      simpa [nw_wl] using this
    simp only [nw_wl, List.getElem?_map, List.getElem?_range hl, Option.map_some] at hp
    cases hp
    rfl
  refine ⟨fun i j p q hp hq he => ?_, fun i q hq => ?_⟩
  · have a := key i p hp
    have b := key j q hq
    omega
  · have b := key i q hq
    show κ.2.2.2.size ≤ q.1
    omega
theorem nw_In.S {κ : fr_Ka} {n t : Nat} {H : Heap} {locs : List Loc} (h : nw_In κ n t H) (hl : ∀ q ∈ locs, fr_fA κ q.base) : va_S (fr_fA κ) κ.2.2.2 H locs :=
  ⟨by rw [h.2.2.1]; omega, fun q h1 _ => h.2.2.2 q h1, hl⟩
theorem nw_In.of {κ : fr_Ka} {n t t' : Nat} {H H1 : Heap} {locs : List Loc} (h : nw_In κ n t H) (hz : H1.size = H.size) (hP : va_P κ.1 vwCl (nw_wl κ n t') H1) (hS : va_S (fr_fA κ) κ.2.2.2 H1 locs) : nw_In κ n t' H1 ∧ ∀ q ∈ locs, fr_fA κ q.base :=
  ⟨⟨h.1, hP, by rw [hz]; exact h.2.2.1, fun q h1 => hS.2.1 q h1 (Nat.not_le.mpr h1)⟩, hS.2.2⟩
/-- one cell more -/
theorem nw_In.push {κ : fr_Ka} {n t : Nat} {H H1 : Heap} (h : nw_In κ n t H) (z1 : H1.size = H.size + 1) (o1 : ∀ q, q < H.size → H1[q]? = H[q]?) (ha : va_at κ.1 vwCl (κ.2.2.2.size + n, nw_ct κ t (nw_c n)) H1) : nw_In κ (n + 1) t H1 := by
  refine ⟨h.1, ?_, by rw [z1, h.2.2.1]; omega, fun q hq => by rw [o1 q (by rw [h.2.2.1]; omega)]; exact h.2.2.2 q hq⟩
  have e : nw_wl κ (n + 1) t = nw_wl κ n t ++ [(κ.2.2.2.size + n, nw_ct κ t (nw_c n))] := by
    unfold nw_wl
    rw [List.range_succ, List.map_append]
    rfl
  rw [e]
  refine (h.2.1.kept (fun k x hx => o1 x.1 ((h.2.1 k x hx).lt))).app (fun k x hx => ?_)
  have hz : k < 1 := (List.getElem?_eq_some_iff.mp hx).1
  rw [show k = 0 by omega] at hx
  cases hx
  exact ha
/-- class ci of the table -/
def nw_kl (ci : Nat) (C : String) (T : u_T) (N : Nat) (ty : Nat → FieldType) : Prop := vwCl[ci]? = some (C, T, N) ∧ fr_nf ci = N ∧ (∀ w ∈ u_ws C T N, w ∈ fr_tb) ∧ (∀ k, k < N → parseFieldDescriptor (T k).2.2.1 = some (ty k)) ∧ (∀ a, a < N → ∀ b, b < N → a ≠ b → (T a).2.1 ≠ (T b).2.1) ∧ (∀ j, j < N → defaultValue (ty j) = if fr_isR ci j = true then .null else fr_i 0) ∧ Cond.instantiable C N ∈ fr_tb ∧ Cond.initialized C ∈ fr_tb
theorem nw_kX0 : nw_kl 0 RX0 TX0 4 tyX0 := ⟨rfl, rfl, fr_in0, tyX0_ok, nmX0, fun j hj => match j, hj with
  | 0, _ => rfl
  | 1, _ => rfl
  | 2, _ => rfl
  | 3, _ => rfl
  | j + 4, h => absurd h (by omega), fr_mem 151 (by decide +kernel) rfl, fr_mem 69 (by decide +kernel) rfl⟩
theorem nw_kX1 : nw_kl 1 RX1 TX1 8 tyX1 := ⟨rfl, rfl, fr_in1, tyX1_ok, nmX1, fun j hj => match j, hj with
  | 0, _ => rfl
  | 1, _ => rfl
  | 2, _ => rfl
  | 3, _ => rfl
  | 4, _ => rfl
  | 5, _ => rfl
  | 6, _ => rfl
  | 7, _ => rfl
  | j + 8, h => absurd h (by omega), fr_mem 96 (by decide +kernel) rfl, fr_mem 67 (by decide +kernel) rfl⟩
theorem nw_kX2 : nw_kl 2 RX2 TX2 7 tyX2 := ⟨rfl, rfl, fr_in2, tyX2_ok, nmX2, fun j hj => match j, hj with
  | 0, _ => rfl
  | 1, _ => rfl
  | 2, _ => rfl
  | 3, _ => rfl
  | 4, _ => rfl
  | 5, _ => rfl
  | 6, _ => rfl
  | j + 7, h => absurd h (by omega), fr_mem 295 (by decide +kernel) rfl, fr_mem 72 (by decide +kernel) rfl⟩
theorem nw_kX3 : nw_kl 3 RX3 TX3 11 tyX3 := ⟨rfl, rfl, fr_in3, tyX3_ok, nmX3, fun j hj => match j, hj with
  | 0, _ => rfl
  | 1, _ => rfl
  | 2, _ => rfl
  | 3, _ => rfl
  | 4, _ => rfl
  | 5, _ => rfl
  | 6, _ => rfl
  | 7, _ => rfl
  | 8, _ => rfl
  | 9, _ => rfl
  | 10, _ => rfl
  | j + 11, h => absurd h (by omega), fr_mem 244 (by decide +kernel) rfl, fr_mem 71 (by decide +kernel) rfl⟩
theorem nw_kX4 : nw_kl 4 RX4 TX4 5 tyX4 := ⟨rfl, rfl, fr_in4, tyX4_ok, nmX4, fun j hj => match j, hj with
  | 0, _ => rfl
  | 1, _ => rfl
  | 2, _ => rfl
  | 3, _ => rfl
  | 4, _ => rfl
  | j + 5, h => absurd h (by omega), fr_mem 370 (by decide +kernel) rfl, fr_mem 75 (by decide +kernel) rfl⟩
theorem nw_kX5 : nw_kl 5 RX5 TX5 4 tyX5 := ⟨rfl, rfl, fr_in5, tyX5_ok, nmX5, fun j hj => match j, hj with
  | 0, _ => rfl
  | 1, _ => rfl
  | 2, _ => rfl
  | 3, _ => rfl
  | j + 4, h => absurd h (by omega), fr_mem 393 (by decide +kernel) rfl, fr_mem 76 (by decide +kernel) rfl⟩
theorem nw_kX6 : nw_kl 6 RX6 TX6 6 tyX6 := ⟨rfl, rfl, fr_in6, tyX6_ok, nmX6, fun j hj => match j, hj with
  | 0, _ => rfl
  | 1, _ => rfl
  | 2, _ => rfl
  | 3, _ => rfl
  | 4, _ => rfl
  | 5, _ => rfl
  | j + 6, h => absurd h (by omega), fr_mem 216 (by decide +kernel) rfl, fr_mem 70 (by decide +kernel) rfl⟩
theorem nw_kX7 : nw_kl 7 RX7 TX7 7 tyX7 := ⟨rfl, rfl, fr_in7, tyX7_ok, nmX7, fun j hj => match j, hj with
  | 0, _ => rfl
  | 1, _ => rfl
  | 2, _ => rfl
  | 3, _ => rfl
  | 4, _ => rfl
  | 5, _ => rfl
  | 6, _ => rfl
  | j + 7, h => absurd h (by omega), fr_mem 105 (by decide +kernel) rfl, fr_mem 68 (by decide +kernel) rfl⟩
theorem nw_kX8 : nw_kl 8 RX8 TX8 3 tyX8 := ⟨rfl, rfl, fr_in8, tyX8_ok, nmX8, fun j hj => match j, hj with
  | 0, _ => rfl
  | 1, _ => rfl
  | 2, _ => rfl
  | j + 3, h => absurd h (by omega), fr_mem 354 (by decide +kernel) rfl, fr_mem 74 (by decide +kernel) rfl⟩
theorem nw_kX9 : nw_kl 9 RX9 TX9 6 tyX9 := ⟨rfl, rfl, fr_in9, tyX9_ok, nmX9, fun j hj => match j, hj with
  | 0, _ => rfl
  | 1, _ => rfl
  | 2, _ => rfl
  | 3, _ => rfl
  | 4, _ => rfl
  | 5, _ => rfl
  | j + 6, h => absurd h (by omega), fr_mem 326 (by decide +kernel) rfl, fr_mem 73 (by decide +kernel) rfl⟩
theorem nw_kX10 : nw_kl 10 RX10 TX10 11 tyX10 := ⟨rfl, rfl, fr_in10, tyX10_ok, nmX10, fun j hj => match j, hj with
  | 0, _ => rfl
  | 1, _ => rfl
  | 2, _ => rfl
  | 3, _ => rfl
  | 4, _ => rfl
  | 5, _ => rfl
  | 6, _ => rfl
  | 7, _ => rfl
  | 8, _ => rfl
  | 9, _ => rfl
  | 10, _ => rfl
  | j + 11, h => absurd h (by omega), fr_mem 88 (by decide +kernel) rfl, fr_mem 66 (by decide +kernel) rfl⟩
theorem nw_kX11 : nw_kl 11 RX11 TX11 18 tyX11 := ⟨rfl, rfl, fr_in11, tyX11_ok, nmX11, fun j hj => match j, hj with
  | 0, _ => rfl
  | 1, _ => rfl
  | 2, _ => rfl
  | 3, _ => rfl
  | 4, _ => rfl
  | 5, _ => rfl
  | 6, _ => rfl
  | 7, _ => rfl
  | 8, _ => rfl
  | 9, _ => rfl
  | 10, _ => rfl
  | 11, _ => rfl
  | 12, _ => rfl
  | 13, _ => rfl
  | 14, _ => rfl
  | 15, _ => rfl
  | 16, _ => rfl
  | 17, _ => rfl
  | j + 18, h => absurd h (by omega), fr_mem 1099 (by decide +kernel) rfl, fr_mem 77 (by decide +kernel) rfl⟩
theorem nw_obI : Cond.instanceMethod Lib.objectInit ∈ fr_tb := fr_mem 93 (by decide +kernel) rfl
theorem nw_obC : Cond.code Lib.objectInit ⟨#[0xb1]⟩ 1 none ∈ fr_tb := fr_mem 94 (by decide +kernel) rfl
section NEWW
variable {l : Launch} {κ : fr_Ka} {mi : fr_Mi} {p : Program} {e : Env} {R : Room} {s : State} {m : MethodId} {args : Array Value} {below : List Frame} {meth : Method} {c' : Code} {H : Heap} {locs : List Loc} {cells slots : Nat} {Q : State → Prop} {pc n t : Nat} {lsA : Array Slot} {st : List Value} {c : Int}
theorem nw_Wnew {idx ci N : Nat} {C : String} {T : u_T} {ty : Nat → FieldType} (hk : nw_kl ci C T N ty) (hF : fr_F κ mi p s m args meth c') (hI : nw_In κ n t H) (hd : decode mi.2.1 pc = .ok (.new idx, 3)) (hlink : Cond.classLink mi.1.cls idx C ∈ fr_tb) (hc : nw_nx n t c) (hs : fr_sh c = .inr ci) (hcells : cells + 1 ≤ R.cells) (hslots : slots + N ≤ R.slots)
    (kk : ∀ H1, nw_In κ (n + 1) t H1 → W p l e R s m args below meth c' H1 locs (cells + 1) (slots + N) Q (F0 m (pc + 3) lsA (fr_r κ c :: st))) : W p l e R s m args below meth c' H locs cells slots Q (F0 m pc lsA st) := by
  obtain ⟨hq, hnf, hin, hty, hnm, hdf, hinst, hini⟩ := hk
  have hts := hF.2.2.2.2.2.1
  have hKn := hF.2.2.2.2.2.2.2.1.1 ci _ hq
  have ha : κ.2.2.1 c = H.size := by rw [hI.1 c hc.1 hc.2.1, hc.2.2.1, hI.2.2.1]
  refine W.newcK hF.1 hF.2.1 hF.2.2.2.2.1 (hts _ hlink) (hts _ hinst) (hts _ hini) rfl hd hcells hslots hKn.2.1 rfl fun H1 kC hkC e1 z1 o1 => ?_
  have K := kk H1 (hI.push z1 o1 (by
    rw [hc.2.2.2.1, ← hI.2.2.1]
    unfold nw_ct
    rw [hs]
    refine ⟨_, hq, (u_born ty hts hin hKn hkC e1 hty).to (fun j hj => ?_)⟩
    rw [hdf j hj]
    have hj' : j < fr_nf ci := by rw [hnf]; exact hj
    simp [vp_V, hj', nw_fv, nw_wF hc.2.2.2.2]))
  rw [fr_r, ha] at K
  exact K
theorem nw_Wnewa {atype : ArrayType} {ty : FieldType} {a N : Nat} {z : Int} {x : (Nat → Int32) ⊕ (Nat → Int64) ⊕ (Nat → UInt32) ⊕ (Nat → UInt64) ⊕ (Nat → Option Nat)} (hty : newarray.typeOf atype = ty) (hra : ∀ U cA, va_RA U cA ty → U.vm.findClass ("[" ++ ty.toString) = some cA) (ht : ∀ κ, (fr_tys κ)[a]? = some (κ.2.1 a, ty)) (harr : Cond.arrayClass ty ∈ fr_tb) (hv : ∀ cA, vp_cell cA (N, x) = arrV cA N (fun _ => defaultValue ty)) (hx : nw_ar κ t c a = x)
    (hF : fr_F κ mi p s m args meth c') (hI : nw_In κ n t H) (hd : decode mi.2.1 pc = .ok (.newarray atype, 2)) (hc : nw_nx n t c) (hs : fr_sh c = .inl (a, N)) (hn : ¬ Int32.ofInt z < 0) (hN : (Int32.ofInt z).toNatClampNeg = N) (hbytes : N * componentBytes ty ≤ 536870912) (hcells : cells + 1 ≤ R.cells) (hslots : slots + N ≤ R.slots)
    (kk : ∀ H1, nw_In κ (n + 1) t H1 → W p l e R s m args below meth c' H1 locs (cells + 1) (slots + N) Q (F0 m (pc + 2) lsA (fr_r κ c :: st))) : W p l e R s m args below meth c' H locs cells slots Q (F0 m pc lsA (fr_i z :: st)) := by
  subst hty
  have hts := hF.2.2.2.2.2.1
  have ha : κ.2.2.1 c = H.size := by rw [hI.1 c hc.1 hc.2.1, hc.2.2.1, hI.2.2.1]
  refine va_newaK hF.1 hF.2.1 (hts _ harr) rfl hd rfl hn hN hbytes hcells hslots rfl fun H1 cA e1 z1 o1 hAr hNm => ?_
  have hcA : cA = κ.2.1 a := Option.some.inj (hNm.symm.trans (hra _ _ (hF.2.2.2.2.2.2.2.1.2 a _ (ht κ)).2))
  have K := kk H1 (hI.push z1 o1 (by
    rw [hc.2.2.2.1, ← hI.2.2.1]
    unfold nw_ct
    rw [hs]
    show H1[H.size]? = some (vp_cell (κ.2.1 a) (N, nw_ar κ t c a))
    rw [hx, hv, e1, hcA]))
  rw [fr_r, ha] at K
  exact K
theorem nw_Wanew {C : String} {a N idx : Nat} {z : Int} (hover : va_AO C s) (ht : ∀ κ, (fr_tys κ)[a]? = some (κ.2.1 a, .object C)) (hx : nw_ar κ t c a = .inr (.inr (.inr (.inr (fun _ => none)))))
    (hF : fr_F κ mi p s m args meth c') (hI : nw_In κ n t H) (hd : decode mi.2.1 pc = .ok (.anewarray idx, 3)) (hlink : Cond.classLink mi.1.cls idx C ∈ fr_tb) (hc : nw_nx n t c) (hs : fr_sh c = .inl (a, N)) (hn : ¬ Int32.ofInt z < 0) (hN : (Int32.ofInt z).toNatClampNeg = N) (hbytes : N * 4 ≤ 536870912) (hcells : cells + 1 ≤ R.cells) (hslots : slots + N ≤ R.slots)
    (kk : ∀ H1, nw_In κ (n + 1) t H1 → W p l e R s m args below meth c' H1 locs (cells + 1) (slots + N) Q (F0 m (pc + 3) lsA (fr_r κ c :: st))) : W p l e R s m args below meth c' H locs cells slots Q (F0 m pc lsA (fr_i z :: st)) := by
  subst hN
  have hts := hF.2.2.2.2.2.1
  have ha : κ.2.2.1 c = H.size := by rw [hI.1 c hc.1 hc.2.1, hc.2.2.1, hI.2.2.1]
  refine W.anew hF.1 hF.2.1 hF.2.2.2.2.1 (hts _ hlink) (va_AO.use hover) rfl hd rfl hn hbytes hcells hslots fun cA kA comp f1 f2 f3 f4 => ?_
  generalize hH1 : H.push ({ cls := cA, slots := Array.replicate (Int32.ofInt z).toNatClampNeg .null, vm := .none } : Cell) = H1
  have z1 : H1.size = H.size + 1 := by rw [← hH1, Array.size_push]
  have e1 : H1[H.size]? = some (arrV cA (Int32.ofInt z).toNatClampNeg (fun _ => .null)) := by rw [← hH1, Array.getElem?_push_size, ← arrV_new]
  have o1 : ∀ q : Nat, q < H.size → H1[q]? = H[q]? := fun q hq => by rw [← hH1, Array.getElem?_push, if_neg (Nat.ne_of_lt hq)]
  obtain ⟨_, _, _, _, _, h6⟩ := (hF.2.2.2.2.2.2.2.1.2 a _ (ht κ)).2
  have hcA : cA = κ.2.1 a := Option.some.inj (f1.symm.trans h6)
  have K := kk H1 (hI.push z1 o1 (by
    rw [hc.2.2.2.1, ← hI.2.2.1]
    unfold nw_ct
    rw [hs]
    show H1[H.size]? = some (vp_cell (κ.2.1 a) (_, nw_ar κ t c a))
    rw [hx, vp_cell_q, e1, hcA]
    rfl))
  rw [fr_r, ha] at K
  exact K
theorem nw_ob_at (hK : nw_K κ) (h : nw_al n c) {ci : Nat} (hs : fr_sh c = .inr ci) : (nw_wl κ n t)[nw_o c]? = some (κ.2.2.1 c, .inr (ci, (List.range (fr_nf ci)).map (nw_fv κ t c ci))) := by
  rw [nw_at κ hK h]
  simp [nw_ct, hs]
theorem nw_ra_at (hK : nw_K κ) (h : nw_al n c) {a N : Nat} (hs : fr_sh c = .inl (a, N)) : (nw_wl κ n t)[nw_o c]? = some (κ.2.2.1 c, .inl (κ.2.1 a, N, nw_ar κ t c a)) := by
  rw [nw_at κ hK h]
  simp [nw_ct, hs]
theorem nw_fset {ci f : Nat} (hw : nw_WL[t]? = some (c, f)) (hf : f < fr_nf ci) : (List.range (fr_nf ci)).map (nw_fv κ (t + 1) c ci) = ((List.range (fr_nf ci)).map (nw_fv κ t c ci)).set f (fr_fv κ nw_m c ci f) := by
  apply List.ext_getElem?
  intro i
  by_cases hi : i = f
  · subst hi
    rw [List.getElem?_set_self (by simpa using hf)]
    have : nw_w (t + 1) c i = true := (nw_ws hw c i).mpr (Or.inr ⟨rfl, rfl⟩)
    simp [hf, nw_fv, this]
  · rw [List.getElem?_set_ne (Ne.symm hi)]
    simp only [List.getElem?_map]
    cases hri : (List.range (fr_nf ci))[i]? with
    | none => rfl
    | some j =>
      obtain ⟨h, e⟩ := List.getElem?_eq_some_iff.mp hri
      simp at e
      subst e
      have hww : nw_w (t + 1) c i = nw_w t c i := by
        rw [Bool.eq_iff_iff, nw_ws hw]
        exact ⟨fun x => x.elim id (fun y => absurd y.2 hi), Or.inl⟩
      simp only [Option.map_some, nw_fv, hww]
end NEWW
def nw_Qc (κ : fr_Ka) (n1 t1 : Nat) : Array Value → State → Outcome → State → Prop := fun _ _ o t => o = .returned none ∧ nw_In κ n1 t1 t.heap
def nw_O (U : State) : Prop := va_AO RX7 U ∧ va_AO RX0 U ∧ va_AO RX5 U
def nw_Pc (κ : fr_Ka) (as : List Value) (n t : Nat) : Array Value → State → Prop := fun a U => a = as.toArray ∧ nw_In κ n t U.heap ∧ fr_Vm κ U ∧ nw_O U
def nw_rm (k n0 n1 : Nat) : Room := { frames := k, cells := n1 - n0, slots := nw_S n1 - nw_S n0, locals := 64 * k }
/-- THE CONTRACT of a constructor: from (n, t) to (n1, t1) -/
def nw_C (l : Launch) (κ : fr_Ka) (mi : fr_Mi) (k : Nat) (as : List Value) (n t n1 t1 : Nat) : Prop :=
  Met l mi.1 (fr_ws mi) (nw_rm k n n1) (nw_Pc κ as n t) (nw_Qc κ n1 t1) (n1 - n) (nw_S n1 - nw_S n) (fr_fA κ)
theorem nw_Pc.blind (κ : fr_Ka) (as : List Value) (n t : Nat) : FrameBlind (nw_Pc κ as n t) := by
  intro a U g mk q
  obtain ⟨q0, q1, q2, q3, q4, q5⟩ := q
  have h := fr_Pc.blind κ as (fun _ _ => 0) a U g mk
  refine ⟨q0, q1, ?_, va_AO.moved (u := U) (U := U.calling g mk a) (Vm.Alike.refl U.vm) q3, va_AO.moved (u := U) (U := U.calling g mk a) (Vm.Alike.refl U.vm) q4, va_AO.moved (u := U) (U := U.calling g mk a) (Vm.Alike.refl U.vm) q5⟩
  obtain ⟨r1, r2, r3⟩ := q2
  refine ⟨va_K.moved (u := U) (U := U.calling g mk a) (Vm.Alike.refl U.vm) r1, fun w hw => ?_, fr_Sv.move (s := U) (U := U.calling g mk a) (Vm.Alike.refl U.vm) r3 (vk_R.same (u := U) (U := U.calling g mk a) rfl r3.1)⟩
  have hn := (List.mem_filter.mp hw).2
  refine va_Nw.same ?_ (rfl : U.vm = (U.calling g mk a).vm) (r2 w hw)
  rcases fr_nest_spec hn with ⟨a, i, b, n, d, o, rfl⟩ | ⟨a, i, x, o, rfl⟩ <;> rfl
/-- the walk of a constructor; g: room, where it began, where it must end -/
def nw_A (l : Launch) (κ : fr_Ka) (mi : fr_Mi) (g : Nat × Nat × Nat × Nat) (pc : Nat) (ls : List (Option Value)) (st : List Value) (σ : Nat × Nat) : Prop :=
  ∀ (p : Program) (e : Env) (s : State) (m : MethodId) (args : Array Value) (below : List Frame) (meth : Method) (c : Code), fr_F κ mi p s m args meth c → meth.name = "<init>" ∧ nw_O s →
  ∀ (H : Heap) (locs : List Loc) (lsA : Array Slot), nw_In κ σ.1 σ.2 H → (∀ q ∈ locs, fr_fA κ q.base) → fr_lh lsA mi.2.2.1 ls →
  W p l e (nw_rm g.1 g.2.1 g.2.2.1) s m args below meth c H locs (σ.1 - g.2.1) (nw_S σ.1 - nw_S g.2.1) (MQ below (nw_Qc κ g.2.2.1 g.2.2.2) args s (g.2.2.1 - g.2.1) (nw_S g.2.2.1 - nw_S g.2.1) (fr_fA κ)) (F0 m pc lsA st)
theorem nw_enter {l : Launch} {κ : fr_Ka} {mi : fr_Mi} {k n t n1 t1 : Nat} {as : List Value} {ls : List (Option Value)} (hp : plainName mi.1.cls = true) (hnm : mi.1.name = "<init>") (hls : fr_el mi.2.2.1 as = ls) (hle : (fr_ex as).length ≤ mi.2.2.1) (h : nw_A l κ mi (k, n, n1, t1) 0 ls [] (n, t)) : nw_C l κ mi k as n t n1 t1 := by
  subst hls
  refine Met.ofW (cc := mi.2.1) (maxL := mi.2.2.1) (ret := mi.2.2.2) hp rfl ?_
  intro p e s m args below meth c s₁ B hml hv
  obtain ⟨rfl, hI, hV, hO⟩ := hv
  have hts := atoms_spec (ws := fr_ws mi) B.pre
  have hown : s.vm.findClass mi.1.cls = some m.cls := findClass_of_methodNamed B.named
  have hin : meth.name = "<init>" := (name_of_methodNamed B.named B.method).1.trans hnm
  rw [lg_entry_eq]
  have K := h p e s m as.toArray below meth c ⟨B.exec, B.bytes, B.returns, hml, hown, fun w hw => hts w (List.mem_cons_of_mem _ hw), B.notSynchronized, hV⟩ ⟨hin, hO⟩ s.heap [] _ hI (fun q hq => by cases hq) (fr_el_lh hle)
  simp only [Nat.sub_self] at K
  exact K
def fr_mi (mi : fr_Mi) (n : Nat) : Prop := fr_mc mi n ∧ mi.1.name = "<init>" ∧ Cond.instanceMethod mi.1 ∈ fr_tb ∧ mi.2.2.2 = none
theorem nw_Wcall {l : Launch} {κ : fr_Ka} {mi mi' : fr_Mi} {p : Program} {e : Env} {R : Room} {s : State} {m : MethodId} {args : Array Value} {below : List Frame} {meth : Method} {c' : Code} {H : Heap} {locs : List Loc} {cells slots : Nat} {Q : State → Prop} {pc n t n' t' k' nn idx : Nat} {lsA : Array Slot} {st st0 as : List Value} {c : Int}
    (hF : fr_F κ mi p s m args meth c') (hO : nw_O s) (hI : nw_In κ n t H) (hL : ∀ q ∈ locs, fr_fA κ q.base) (hlo : lsA.size = mi.2.2.1) (hd : decode mi.2.1 pc = .ok (.invokespecial idx, 3)) (hl : fr_ml mi.1.cls idx mi'.1) (hm : fr_mi mi' nn) (hR : k' + 1 ≤ R.frames ∧ 64 * k' + 64 ≤ R.locals) (hC : nw_C l κ mi' k' (fr_r κ c :: as) n t n' t') (hn : as.length = nn) (hst : st0 = as.reverse ++ fr_r κ c :: st) (hw : (st.map fun v => v.category).sum ≤ 8) (hcells : cells + (n' - n) ≤ R.cells) (hslots : slots + (nw_S n' - nw_S n) ≤ R.slots)
    (kk : ∀ (H1 : Heap) (locs1 : List Loc), nw_In κ n' t' H1 → (∀ q ∈ locs1, fr_fA κ q.base) → W p l e R s m args below meth c' H1 locs1 (cells + (n' - n)) (slots + (nw_S n' - nw_S n)) Q (F0 m (pc + 3) lsA st)) : W p l e R s m args below meth c' H locs cells slots Q (F0 m pc lsA st0) := by
  subst hst
  obtain ⟨⟨hmc, hmi, hm1, hm2, hm3, hm4⟩, hnm, hms, hmr⟩ := hm
  have hts := hF.2.2.2.2.2.1
  have hR2 : (nw_rm k' n n').frames + 1 ≤ R.frames ∧ 8 + (mi'.2.2.1 + 11) + (nw_rm k' n n').locals ≤ R.locals := ⟨hR.1, by show 8 + (mi'.2.2.1 + 11) + 64 * k' ≤ _; omega⟩
  have hpre : PreS s H (nw_Pc κ (fr_r κ c :: as) n t) (fr_r κ c :: as) := ⟨nw_Pc.blind _ _ _ _, fun U hU hW => ⟨rfl, by rw [hU]; exact hI, hF.2.2.2.2.2.2.2.warm hW, va_AO.moved hW.alike hO.1, va_AO.moved hW.alike hO.2.1, va_AO.moved hW.alike hO.2.2⟩⟩
  have hfx : CallFix p m c' mi.2.1 mi.2.2.1 s args fr_tb mi.1.cls := ⟨hF.1, hF.2.1, hF.2.2.2.1, hF.2.2.2.2.1, hts⟩
  have hws : fr_ws mi' = Cond.code mi'.1 mi'.2.1 mi'.2.2.1 none :: fr_tb := by rw [fr_ws, hmr]
  have hr : va_Run p l e R s m args below meth c' H locs cells slots (n' - n) (nw_S n' - nw_S n) (F0 m pc lsA (as.reverse ++ fr_r κ c :: st)) st (nw_Qc κ n' t' (Value.ref (κ.2.2.1 c) :: as).toArray) (fr_fA κ) := by
    rcases hl with hl | hl
    · exact va_runI hfx hC ⟨callB_of nn hts (fr_good mi mi' hmc) hws rfl rfl (hts _ hmi) (hts _ hl) ⟨hm1, hm2, hm3⟩ hR2, hnm, hts _ hms⟩ hpre rfl hn hlo rfl (by simpa [F0, JFrame.monitorRoom] using hw) hd ⟨hcells, hslots⟩
    · exact va_runIN hfx hC ⟨va_cnB nn hts (fr_good mi mi' hmc) hws rfl rfl (hF.2.2.2.2.2.2.2.2.1 _ hl) (hts _ hmi) ⟨hm1, hm2, hm3⟩ hR2, hnm, hts _ hms⟩ hpre rfl hn hlo rfl (by simpa [F0, JFrame.monitorRoom] using hw) hd ⟨hcells, hslots⟩
  intro T hT X
  obtain ⟨v, st₀, t0, T', L, h0, X', hL2, e1, e2, ⟨hv, hI2⟩, stp⟩ := hr T hT X
  cases hv
  obtain ⟨t2, a1, b1⟩ := kk T'.heap (locs ++ L) (by rw [e1]; exact hI2) (fun q h => by
    rcases List.mem_append.mp h with h | h
    · exact hL q h
    · exact hL2 q h) T' rfl X'
  exact ⟨t2, stp t2 a1, b1⟩
section NEWA
variable {l : Launch} {κ : fr_Ka} {mi mi' : fr_Mi} {g : Nat × Nat × Nat × Nat} {k n0 n1 t1 pc n t idx : Nat} {ls r : List (Option Value)} {st st0 as : List Value} {σ : Nat × Nat} {c : Int}
theorem nw_al0 {z : Nat} (hd : decode mi.2.1 pc = .ok (.aload_n 0, 1)) (kk : nw_A l κ mi g (pc + 1) (some (Value.ref z) :: r) (Value.ref z :: st) σ) : nw_A l κ mi g pc (some (Value.ref z) :: r) st σ := by
  intro p e s m args below meth c hF hX H locs lsA hI hL hl
  exact lv_aload_n hF.1 hF.2.1 hd rfl (hl.2.2 0 _ rfl) (kk p e s m args below meth c hF hX H locs lsA hI hL hl)
theorem nw_al1 {x0 : Option Value} {z : Nat} (hd : decode mi.2.1 pc = .ok (.aload_n 1, 1)) (kk : nw_A l κ mi g (pc + 1) (x0 :: some (Value.ref z) :: r) (Value.ref z :: st) σ) : nw_A l κ mi g pc (x0 :: some (Value.ref z) :: r) st σ := by
  intro p e s m args below meth c hF hX H locs lsA hI hL hl
  exact lv_aload_n hF.1 hF.2.1 hd rfl (hl.2.2 1 _ rfl) (kk p e s m args below meth c hF hX H locs lsA hI hL hl)
theorem nw_il1 {x0 : Option Value} {z : Int} (hd : decode mi.2.1 pc = .ok (.iload_n 1, 1)) (kk : nw_A l κ mi g (pc + 1) (x0 :: some (fr_i z) :: r) (fr_i z :: st) σ) : nw_A l κ mi g pc (x0 :: some (fr_i z) :: r) st σ := by
  intro p e s m args below meth c hF hX H locs lsA hI hL hl
  exact lv_iload_n hF.1 hF.2.1 hd rfl (hl.2.2 1 _ rfl) (kk p e s m args below meth c hF hX H locs lsA hI hL hl)
theorem nw_is1 {x0 : Option Value} {y : Option Value} {z : Int} (hd : decode mi.2.1 pc = .ok (.istore_n 1, 1)) (hc : fr_c1 x0 = true) (hn : 1 < mi.2.2.1) (kk : nw_A l κ mi g (pc + 1) (x0 :: some (fr_i z) :: r) st σ) : nw_A l κ mi g pc (x0 :: y :: r) (fr_i z :: st) σ := by
  intro p e s m args below meth c hF hX H locs lsA hI hL hl
  exact lv_istore_n hF.1 hF.2.1 hd rfl hl.has hn rfl (fun lsB hB => kk p e s m args below meth c hF hX H locs lsB hI hL (hl.set1 (by simp) (fr_hp (i := 0) (y := x0) rfl hc) hB))
theorem nw_iconst {n : Int} (hd : decode mi.2.1 pc = .ok (.iconst n, 1)) (kk : nw_A l κ mi g (pc + 1) ls (fr_i n :: st) σ) : nw_A l κ mi g pc ls st σ := by
  intro p e s m args below meth c hF hX H locs lsA hI hL hl
  exact lv_iconst hF.1 hF.2.1 hd rfl (kk p e s m args below meth c hF hX H locs lsA hI hL hl)
theorem nw_bipush {n : Int} (hd : decode mi.2.1 pc = .ok (.bipush n, 2)) (hv : (Int8.ofInt n).toInt32 = Int32.ofInt n) (kk : nw_A l κ mi g (pc + 2) ls (fr_i n :: st) σ) : nw_A l κ mi g pc ls st σ := by
  intro p e s m args below meth c hF hX H locs lsA hI hL hl
  exact lv_bipush hF.1 hF.2.1 hd hv (kk p e s m args below meth c hF hX H locs lsA hI hL hl)
theorem nw_sipush {n : Int} (hd : decode mi.2.1 pc = .ok (.sipush n, 3)) (hv : (Int16.ofInt n).toInt32 = Int32.ofInt n) (kk : nw_A l κ mi g (pc + 3) ls (fr_i n :: st) σ) : nw_A l κ mi g pc ls st σ := by
  intro p e s m args below meth c hF hX H locs lsA hI hL hl
  exact lv_sipush hF.1 hF.2.1 hd hv (kk p e s m args below meth c hF hX H locs lsA hI hL hl)
theorem nw_icmp_ge {a b : Int} {off : Int} {tgt : Nat} (hd : decode mi.2.1 pc = .ok (.if_icmp .ge off, 3)) (ht : (pc : Int) + off = (tgt : Int)) (ha : -2147483648 ≤ a ∧ a ≤ 2147483647) (hb : -2147483648 ≤ b ∧ b ≤ 2147483647) (kt : b ≤ a → nw_A l κ mi g tgt ls st σ) (kf : a < b → nw_A l κ mi g (pc + 3) ls st σ) : nw_A l κ mi g pc ls (fr_i b :: fr_i a :: st) σ := by
  intro p e s m args below meth c hF hX H locs lsA hI hL hl
  exact lv_icmp_ge hF.1 hF.2.1 hd ht (fun h => kt ((fun h => (fr_le_iff hb ha).mp h) h) p e s m args below meth c hF hX H locs lsA hI hL hl) (fun h => kf ((fun h => Int.not_le.mp fun e => h ((fr_le_iff hb ha).mpr e)) h) p e s m args below meth c hF hX H locs lsA hI hL hl)
theorem nw_goto {off : Int} {tgt : Nat} (hd : decode mi.2.1 pc = .ok (.goto off, 3)) (ht : (pc : Int) + off = (tgt : Int)) (kk : nw_A l κ mi g tgt ls st σ) : nw_A l κ mi g pc ls st σ := by
  intro p e s m args below meth c hF hX H locs lsA hI hL hl
  exact lv_goto hF.1 hF.2.1 hd ht (kk p e s m args below meth c hF hX H locs lsA hI hL hl)
theorem nw_dup {v : Value} (hd : decode mi.2.1 pc = .ok (.dup, 1)) (hv : v.category = 1) (kk : nw_A l κ mi g (pc + 1) ls (v :: v :: st) σ) : nw_A l κ mi g pc ls (v :: st) σ := by
  intro p e s m args below meth c hF hX H locs lsA hI hL hl
  exact lv_dup hF.1 hF.2.1 hd hv (kk p e s m args below meth c hF hX H locs lsA hI hL hl)
theorem nw_iadd0 {a b : Int} (hd : decode mi.2.1 pc = .ok (.iadd, 1)) (kk : nw_A l κ mi g (pc + 1) ls (fr_i (a + b) :: st) σ) : nw_A l κ mi g pc ls (fr_i b :: fr_i a :: st) σ := by
  intro p e s m args below meth c hF hX H locs lsA hI hL hl
  refine lv_iadd hF.1 hF.2.1 hd ?_
  have K := kk p e s m args below meth c hF hX H locs lsA hI hL hl
  rw [fr_i, Int32.ofInt_add] at K; exact K
theorem nw_ii10 {x0 : Option Value} {z n : Int} (hd : decode mi.2.1 pc = .ok (.iinc 1 n, 3)) (hc : fr_c1 x0 = true) (hn : 1 < mi.2.2.1) (kk : nw_A l κ mi g (pc + 3) (x0 :: some (fr_i (z + n)) :: r) st σ) : nw_A l κ mi g pc (x0 :: some (fr_i z) :: r) st σ := by
  intro p e s m args below meth c hF hX H locs lsA hI hL hl
  have hm : ((1, fr_i z) : Nat × Value) ∈ fr_as mi.2.2.1 (x0 :: some (fr_i z) :: r) := fr_as_mem.mpr ⟨hn, rfl⟩
  obtain ⟨j, hj⟩ := List.getElem?_of_mem hm
  exact lv_iinc hF.1 hF.2.1 hd hl.has hj (Int32.ofInt_add z n).symm hn rfl (fun lsB hB => kk p e s m args below meth c hF hX H locs lsB hI hL (hl.set1 (by simp) (fr_hp (i := 0) (y := x0) rfl hc) hB))
theorem nw_iadd {a b z2 : Int} (hd : decode mi.2.1 pc = .ok (.iadd, 1)) (h : a + b = z2) (kk : nw_A l κ mi g (pc + 1) ls (fr_i z2 :: st) σ) : nw_A l κ mi g pc ls (fr_i b :: fr_i a :: st) σ := nw_iadd0 hd (by rw [h]; exact kk)
theorem nw_ii1 {x0 : Option Value} {z q z2 : Int} (hd : decode mi.2.1 pc = .ok (.iinc 1 q, 3)) (hc : fr_c1 x0 = true) (hn : 1 < mi.2.2.1) (h : z + q = z2) (kk : nw_A l κ mi g (pc + 3) (x0 :: some (fr_i z2) :: r) st σ) : nw_A l κ mi g pc (x0 :: some (fr_i z) :: r) st σ := nw_ii10 hd hc hn (by rw [h]; exact kk)
theorem nw_ret (hd : decode mi.2.1 pc = .ok (.return_, 1)) (hr : mi.2.2.2 = none) : nw_A l κ mi (k, n0, n, t) pc ls [] (n, t) := by
  intro p e s m args below meth c hF hX H locs lsA hI hL hl
  exact W.vret hF.1 hF.2.1 (hF.2.2.1.trans hr) (fun t ht _ => ⟨rfl, by rw [ht]; exact hI⟩) hL hd (hlocks := hF.2.2.2.2.2.2.1)
theorem nw_geT {a b off : Int} {tgt : Nat} (hd : decode mi.2.1 pc = .ok (.if_icmp .ge off, 3)) (ht : (pc : Int) + off = (tgt : Int)) (ha : -2147483648 ≤ a ∧ a ≤ 2147483647) (hb : -2147483648 ≤ b ∧ b ≤ 2147483647) (h : b ≤ a) (kk : nw_A l κ mi g tgt ls st σ) : nw_A l κ mi g pc ls (fr_i b :: fr_i a :: st) σ :=
  nw_icmp_ge hd ht ha hb (fun _ => kk) (fun h2 => absurd h (by omega))
theorem nw_geF {a b off : Int} (hd : decode mi.2.1 pc = .ok (.if_icmp .ge off, 3)) (ha : -2147483648 ≤ a ∧ a ≤ 2147483647) (hb : -2147483648 ≤ b ∧ b ≤ 2147483647) (h : a < b) (hp : 0 ≤ (pc : Int) + off) (kk : nw_A l κ mi g (pc + 3) ls st σ) : nw_A l κ mi g pc ls (fr_i b :: fr_i a :: st) σ :=
  nw_icmp_ge (tgt := ((pc : Int) + off).toNat) hd (Int.toNat_of_nonneg hp).symm ha hb (fun h2 => absurd h (by omega)) (fun _ => kk)
theorem nw_obj {x : Nat} (hd : decode mi.2.1 pc = .ok (.invokespecial idx, 3)) (hlink : Cond.methodLink mi.1.cls idx Lib.objectInit ∈ fr_tb) (hk : 1 ≤ k) (hw : (st.map fun v => v.category).sum ≤ 8) (kk : nw_A l κ mi (k, n0, n1, t1) (pc + 3) ls st σ) : nw_A l κ mi (k, n0, n1, t1) pc ls (Value.ref x :: st) σ := by
  intro p e s m args below meth c hF hX H locs lsA hI hL hl
  have hts := hF.2.2.2.2.2.1
  exact W.objInit hF.1 hF.2.1 hF.2.2.2.2.1 (hts _ hlink) (hts _ nw_obI) (hts _ nw_obC) rfl (by show lsA.size = _; rw [hF.2.2.2.1]; exact hl.1) rfl hd hk (by show _ ≤ 64 * k; simp only [F0, JFrame.monitorRoom]; simp; omega) (kk p e s m args below meth c hF hX H locs lsA hI hL hl)
theorem nw_call {n' t' k' nn : Nat} (hd : decode mi.2.1 pc = .ok (.invokespecial idx, 3)) (hl : fr_ml mi.1.cls idx mi'.1) (hm : fr_mi mi' nn) (hk : k' + 1 ≤ k) (hC : nw_C l κ mi' k' (fr_r κ c :: as) n t n' t') (hn : as.length = nn) (hst : st0 = as.reverse ++ fr_r κ c :: st) (hw : (st.map fun v => v.category).sum ≤ 8) (hoc : nw_oc n0 n n' n1) (kk : nw_A l κ mi (k, n0, n1, t1) (pc + 3) ls st (n', t')) : nw_A l κ mi (k, n0, n1, t1) pc ls st0 (n, t) := by
  intro p e s m args below meth c' hF hX H locs lsA hI hL hlo
  obtain ⟨o1, o2, o3, o4, o5, o6⟩ := hoc
  refine nw_Wcall hF hX.2 hI hL hlo.1 hd hl hm ⟨hk, by show 64 * k' + 64 ≤ 64 * k; omega⟩ hC hn hst hw (by show n - n0 + (n' - n) ≤ n1 - n0; omega) (by show nw_S n - nw_S n0 + (nw_S n' - nw_S n) ≤ nw_S n1 - nw_S n0; omega) (fun H1 locs1 g1 g2 => ?_)
  have K := kk p e s m args below meth c' hF hX H1 locs1 lsA g1 g2 hlo
  have e1 : (n, t).1 - (k, n0, n1, t1).2.1 + (n' - n) = (n', t').1 - (k, n0, n1, t1).2.1 := by show n - n0 + (n' - n) = n' - n0; omega
  have e2 : nw_S (n, t).1 - nw_S (k, n0, n1, t1).2.1 + (nw_S n' - nw_S n) = nw_S (n', t').1 - nw_S (k, n0, n1, t1).2.1 := by show nw_S n - nw_S n0 + (nw_S n' - nw_S n) = nw_S n' - nw_S n0; omega
  rw [e1, e2]
  exact K
theorem nw_new {ci N : Nat} {C : String} {T : u_T} {ty : Nat → FieldType} (hk : nw_kl ci C T N ty) (hd : decode mi.2.1 pc = .ok (.new idx, 3)) (hlink : Cond.classLink mi.1.cls idx C ∈ fr_tb) (hc : nw_nx n t c) (hs : fr_sh c = .inr ci) (ho : nw_ok n0 n n1 N) (kk : nw_A l κ mi (k, n0, n1, t1) (pc + 3) ls (fr_r κ c :: st) (n + 1, t)) : nw_A l κ mi (k, n0, n1, t1) pc ls st (n, t) := by
  intro p e s m args below meth c' hF hX H locs lsA hI hL hlo
  obtain ⟨o1, o2, o3, o4, o5⟩ := ho
  refine nw_Wnew hk hF hI hd hlink hc hs (by show n - n0 + 1 ≤ n1 - n0; omega) (by show nw_S n - nw_S n0 + N ≤ nw_S n1 - nw_S n0; omega) (fun H1 g1 => ?_)
  have K := kk p e s m args below meth c' hF hX H1 locs lsA g1 hL hlo
  have e1 : (n, t).1 - (k, n0, n1, t1).2.1 + 1 = (n + 1, t).1 - (k, n0, n1, t1).2.1 := by show n - n0 + 1 = n + 1 - n0; omega
  have e2 : nw_S (n, t).1 - nw_S (k, n0, n1, t1).2.1 + N = nw_S (n + 1, t).1 - nw_S (k, n0, n1, t1).2.1 := by show nw_S n - nw_S n0 + N = nw_S (n + 1) - nw_S n0; omega
  rw [e1, e2]
  exact K
theorem nw_newI {N : Nat} {z : Int} (hd : decode mi.2.1 pc = .ok (.newarray .int, 2)) (hc : nw_nx n t c) (hs : fr_sh c = .inl (0, N)) (hn : ¬ Int32.ofInt z < 0) (hN : (Int32.ofInt z).toNatClampNeg = N) (hb : N ≤ 60000) (ho : nw_ok n0 n n1 N) (kk : nw_A l κ mi (k, n0, n1, t1) (pc + 2) ls (fr_r κ c :: st) (n + 1, t)) : nw_A l κ mi (k, n0, n1, t1) pc ls (fr_i z :: st) (n, t) := by
  intro p e s m args below meth c' hF hX H locs lsA hI hL hlo
  obtain ⟨o1, o2, o3, o4, o5⟩ := ho
  refine nw_Wnewa (a := 0) (ty := .int) (x := .inl (fun _ => 0)) rfl (fun _ _ h => h) (fun _ => rfl) (fr_mem 150 (by decide +kernel) rfl) (fun _ => rfl) ?_ hF hI hd hc hs hn hN (by simp [componentBytes]; omega) (by show n - n0 + 1 ≤ n1 - n0; omega) (by show nw_S n - nw_S n0 + N ≤ nw_S n1 - nw_S n0; omega) (fun H1 g1 => ?_)
  · simp [nw_ar, nw_wF hc.2.2.2.2]
  have K := kk p e s m args below meth c' hF hX H1 locs lsA g1 hL hlo
  have e1 : (n, t).1 - (k, n0, n1, t1).2.1 + 1 = (n + 1, t).1 - (k, n0, n1, t1).2.1 := by show n - n0 + 1 = n + 1 - n0; omega
  have e2 : nw_S (n, t).1 - nw_S (k, n0, n1, t1).2.1 + N = nw_S (n + 1, t).1 - nw_S (k, n0, n1, t1).2.1 := by show nw_S n - nw_S n0 + N = nw_S (n + 1) - nw_S n0; omega
  rw [e1, e2]
  exact K
theorem nw_newJ {N : Nat} {z : Int} (hd : decode mi.2.1 pc = .ok (.newarray .long, 2)) (hc : nw_nx n t c) (hs : fr_sh c = .inl (1, N)) (hn : ¬ Int32.ofInt z < 0) (hN : (Int32.ofInt z).toNatClampNeg = N) (hb : N ≤ 60000) (ho : nw_ok n0 n n1 N) (kk : nw_A l κ mi (k, n0, n1, t1) (pc + 2) ls (fr_r κ c :: st) (n + 1, t)) : nw_A l κ mi (k, n0, n1, t1) pc ls (fr_i z :: st) (n, t) := by
  intro p e s m args below meth c' hF hX H locs lsA hI hL hlo
  obtain ⟨o1, o2, o3, o4, o5⟩ := ho
  refine nw_Wnewa (a := 1) (ty := .long) (x := .inr (.inl (fun _ => 0))) rfl (fun _ _ h => h) (fun _ => rfl) (fr_mem 415 (by decide +kernel) rfl) (fun _ => rfl) ?_ hF hI hd hc hs hn hN (by simp [componentBytes]; omega) (by show n - n0 + 1 ≤ n1 - n0; omega) (by show nw_S n - nw_S n0 + N ≤ nw_S n1 - nw_S n0; omega) (fun H1 g1 => ?_)
  · simp [nw_ar, nw_wF hc.2.2.2.2]
  have K := kk p e s m args below meth c' hF hX H1 locs lsA g1 hL hlo
  have e1 : (n, t).1 - (k, n0, n1, t1).2.1 + 1 = (n + 1, t).1 - (k, n0, n1, t1).2.1 := by show n - n0 + 1 = n + 1 - n0; omega
  have e2 : nw_S (n, t).1 - nw_S (k, n0, n1, t1).2.1 + N = nw_S (n + 1, t).1 - nw_S (k, n0, n1, t1).2.1 := by show nw_S n - nw_S n0 + N = nw_S (n + 1) - nw_S n0; omega
  rw [e1, e2]
  exact K
theorem nw_newZ {N : Nat} {z : Int} (hd : decode mi.2.1 pc = .ok (.newarray .boolean, 2)) (hc : nw_nx n t c) (hs : fr_sh c = .inl (2, N)) (hn : ¬ Int32.ofInt z < 0) (hN : (Int32.ofInt z).toNatClampNeg = N) (hb : N ≤ 60000) (ho : nw_ok n0 n n1 N) (kk : nw_A l κ mi (k, n0, n1, t1) (pc + 2) ls (fr_r κ c :: st) (n + 1, t)) : nw_A l κ mi (k, n0, n1, t1) pc ls (fr_i z :: st) (n, t) := by
  intro p e s m args below meth c' hF hX H locs lsA hI hL hlo
  obtain ⟨o1, o2, o3, o4, o5⟩ := ho
  refine nw_Wnewa (a := 2) (ty := .boolean) (x := .inl (fun _ => 0)) rfl (fun _ _ h => h) (fun _ => rfl) (fr_mem 1159 (by decide +kernel) rfl) (fun _ => rfl) ?_ hF hI hd hc hs hn hN (by simp [componentBytes]; omega) (by show n - n0 + 1 ≤ n1 - n0; omega) (by show nw_S n - nw_S n0 + N ≤ nw_S n1 - nw_S n0; omega) (fun H1 g1 => ?_)
  · simp [nw_ar, nw_wF hc.2.2.2.2]
  have K := kk p e s m args below meth c' hF hX H1 locs lsA g1 hL hlo
  have e1 : (n, t).1 - (k, n0, n1, t1).2.1 + 1 = (n + 1, t).1 - (k, n0, n1, t1).2.1 := by show n - n0 + 1 = n + 1 - n0; omega
  have e2 : nw_S (n, t).1 - nw_S (k, n0, n1, t1).2.1 + N = nw_S (n + 1, t).1 - nw_S (k, n0, n1, t1).2.1 := by show nw_S n - nw_S n0 + N = nw_S (n + 1) - nw_S n0; omega
  rw [e1, e2]
  exact K
theorem nw_newR3 {N : Nat} {z : Int} (hd : decode mi.2.1 pc = .ok (.anewarray idx, 3)) (hlink : Cond.classLink mi.1.cls idx RX7 ∈ fr_tb) (hc : nw_nx n t c) (hs : fr_sh c = .inl (3, N)) (hn : ¬ Int32.ofInt z < 0) (hN : (Int32.ofInt z).toNatClampNeg = N) (hb : N ≤ 60000) (ho : nw_ok n0 n n1 N) (kk : nw_A l κ mi (k, n0, n1, t1) (pc + 3) ls (fr_r κ c :: st) (n + 1, t)) : nw_A l κ mi (k, n0, n1, t1) pc ls (fr_i z :: st) (n, t) := by
  intro p e s m args below meth c' hF hX H locs lsA hI hL hlo
  obtain ⟨o1, o2, o3, o4, o5⟩ := ho
  refine nw_Wanew (a := 3) hX.2.1 (fun _ => rfl) ?_ hF hI hd hlink hc hs hn hN (by omega) (by show n - n0 + 1 ≤ n1 - n0; omega) (by show nw_S n - nw_S n0 + N ≤ nw_S n1 - nw_S n0; omega) (fun H1 g1 => ?_)
  · simp [nw_ar, nw_wF hc.2.2.2.2]
  have K := kk p e s m args below meth c' hF hX H1 locs lsA g1 hL hlo
  have e1 : (n, t).1 - (k, n0, n1, t1).2.1 + 1 = (n + 1, t).1 - (k, n0, n1, t1).2.1 := by show n - n0 + 1 = n + 1 - n0; omega
  have e2 : nw_S (n, t).1 - nw_S (k, n0, n1, t1).2.1 + N = nw_S (n + 1, t).1 - nw_S (k, n0, n1, t1).2.1 := by show nw_S n - nw_S n0 + N = nw_S (n + 1) - nw_S n0; omega
  rw [e1, e2]
  exact K
theorem nw_newR4 {N : Nat} {z : Int} (hd : decode mi.2.1 pc = .ok (.anewarray idx, 3)) (hlink : Cond.classLink mi.1.cls idx RX0 ∈ fr_tb) (hc : nw_nx n t c) (hs : fr_sh c = .inl (4, N)) (hn : ¬ Int32.ofInt z < 0) (hN : (Int32.ofInt z).toNatClampNeg = N) (hb : N ≤ 60000) (ho : nw_ok n0 n n1 N) (kk : nw_A l κ mi (k, n0, n1, t1) (pc + 3) ls (fr_r κ c :: st) (n + 1, t)) : nw_A l κ mi (k, n0, n1, t1) pc ls (fr_i z :: st) (n, t) := by
  intro p e s m args below meth c' hF hX H locs lsA hI hL hlo
  obtain ⟨o1, o2, o3, o4, o5⟩ := ho
  refine nw_Wanew (a := 4) hX.2.2.1 (fun _ => rfl) ?_ hF hI hd hlink hc hs hn hN (by omega) (by show n - n0 + 1 ≤ n1 - n0; omega) (by show nw_S n - nw_S n0 + N ≤ nw_S n1 - nw_S n0; omega) (fun H1 g1 => ?_)
  · simp [nw_ar, nw_wF hc.2.2.2.2]
  have K := kk p e s m args below meth c' hF hX H1 locs lsA g1 hL hlo
  have e1 : (n, t).1 - (k, n0, n1, t1).2.1 + 1 = (n + 1, t).1 - (k, n0, n1, t1).2.1 := by show n - n0 + 1 = n + 1 - n0; omega
  have e2 : nw_S (n, t).1 - nw_S (k, n0, n1, t1).2.1 + N = nw_S (n + 1, t).1 - nw_S (k, n0, n1, t1).2.1 := by show nw_S n - nw_S n0 + N = nw_S (n + 1) - nw_S n0; omega
  rw [e1, e2]
  exact K
theorem nw_newR5 {N : Nat} {z : Int} (hd : decode mi.2.1 pc = .ok (.anewarray idx, 3)) (hlink : Cond.classLink mi.1.cls idx RX5 ∈ fr_tb) (hc : nw_nx n t c) (hs : fr_sh c = .inl (5, N)) (hn : ¬ Int32.ofInt z < 0) (hN : (Int32.ofInt z).toNatClampNeg = N) (hb : N ≤ 60000) (ho : nw_ok n0 n n1 N) (kk : nw_A l κ mi (k, n0, n1, t1) (pc + 3) ls (fr_r κ c :: st) (n + 1, t)) : nw_A l κ mi (k, n0, n1, t1) pc ls (fr_i z :: st) (n, t) := by
  intro p e s m args below meth c' hF hX H locs lsA hI hL hlo
  obtain ⟨o1, o2, o3, o4, o5⟩ := ho
  refine nw_Wanew (a := 5) hX.2.2.2 (fun _ => rfl) ?_ hF hI hd hlink hc hs hn hN (by omega) (by show n - n0 + 1 ≤ n1 - n0; omega) (by show nw_S n - nw_S n0 + N ≤ nw_S n1 - nw_S n0; omega) (fun H1 g1 => ?_)
  · simp [nw_ar, nw_wF hc.2.2.2.2]
  have K := kk p e s m args below meth c' hF hX H1 locs lsA g1 hL hlo
  have e1 : (n, t).1 - (k, n0, n1, t1).2.1 + 1 = (n + 1, t).1 - (k, n0, n1, t1).2.1 := by show n - n0 + 1 = n + 1 - n0; omega
  have e2 : nw_S (n, t).1 - nw_S (k, n0, n1, t1).2.1 + N = nw_S (n + 1, t).1 - nw_S (k, n0, n1, t1).2.1 := by show nw_S n - nw_S n0 + N = nw_S (n + 1) - nw_S n0; omega
  rw [e1, e2]
  exact K
theorem nw_put0 {ci N f : Nat} {C : String} {T : u_T} {ty : Nat → FieldType} {v : Value} (hk : nw_kl ci C T N ty) (hd : decode mi.2.1 pc = .ok (.putfield idx, 3)) (hf : f < N) (hlink : Cond.fieldLink mi.1.cls idx (T f).1 (T f).2.1 (T f).2.2.1 ∈ fr_tb) (hown : (T f).1 = mi.1.cls) (ha : nw_al n c) (hs : fr_sh c = .inr ci) (hn : narrow (ty f) v = v) (hfit : fits (ty f) v = true) (hw : nw_WL[t]? = some (c, f)) (hv : v = fr_fv κ nw_m c ci f) (kk : nw_A l κ mi g (pc + 3) ls st (n, t + 1)) : nw_A l κ mi g pc ls (v :: fr_r κ c :: st) (n, t) := by
  intro p e s m args below meth c' hF hX H locs lsA hI hL hlo
  obtain ⟨hq, hnf, hin, hty, hnm, -, -, -⟩ := hk
  have hts := hF.2.2.2.2.2.1
  have hKv := hF.2.2.2.2.2.2.2.1
  have hap := va_apart (own := mi.1.cls) hts hin ty hty hnm hKv hq
  have he := nw_ob_at (t := t) hI.1 ha hs
  obtain ⟨r, h1, cell, q1, q2, q3, q4⟩ := hI.2.1 _ _ he
  have hr : r = (C, T, N) := Option.some.inj (h1.symm.trans hq)
  subst hr
  obtain ⟨hS, hfc, kC, hkC, hkind⟩ := hKv.1 ci _ hq
  obtain ⟨cf, kf, fi, fd, hi, hsl⟩ := hS f hf
  have hst := (u_facts hfc hkC (u_lays hts hin hf) hi).1
  have hff : f < fr_nf ci := by rw [hnf]; exact hf
  have fin : ∀ H' : Heap, H'[κ.2.2.1 c]? = some (cell.setSlot (κ.1.2 ci f) v) → H'.size = H.size → (∀ q, q ≠ κ.2.2.1 c → H'[q]? = H[q]?) → W p l e (nw_rm g.1 g.2.1 g.2.2.1) s m args below meth c' H' (locs ++ [⟨κ.2.2.1 c, κ.1.2 ci f⟩]) ((n, t).1 - g.2.1) (nw_S (n, t).1 - nw_S g.2.1) (MQ below (nw_Qc κ g.2.2.1 g.2.2.2) args s (g.2.2.1 - g.2.1) (nw_S g.2.2.1 - nw_S g.2.1) (fr_fA κ)) (F0 m (pc + 3) lsA st) := by
    intro H' e1 e2 e3
    have hP1 := hI.2.1.set (e := .inr (ci, ((List.range (fr_nf ci)).map (nw_fv κ t c ci)).set f v)) (nw_D κ n t) he ⟨_, hq, t_OB.to (V := updV (vp_V _) f v) ⟨_, e1, q2, q3, t_set q4 hap hf v⟩ (fun j _ => vp_updV_set (by simpa using hff) v j)⟩ e3
    rw [nw_set κ hI.1 ha hw (by rw [nw_ct, hs, hv]; simp only [nw_fset hw hff])] at hP1
    obtain ⟨g1, g2⟩ := hI.of e2 hP1 ((hI.S hL).put e2 e3 (by show κ.2.2.2.size ≤ κ.2.2.1 c; rw [hI.1 c ha.1 ha.2.1]; omega))
    exact kk p e s m args below meth c' hF hX H' _ lsA g1 g2 hlo
  have hlay := hts _ (hin _ (u_in_lay hf))
  unfold u_lay at hlay
  by_cases hfin : (T f).2.2.2 = true
  · rw [if_pos hfin] at hlay
    have hcf : m.cls = cf := by
      obtain ⟨_, _, c2, _, _, _, -, -, hf2, -, -, -, hown2, -⟩ := Cond.laysFinal_spec hlay
      have e1 : c2 = cf := by have := hi.symm.trans hf2; simp at this; exact this.1.symm
      rw [hown] at hown2
      rw [← e1]; exact Option.some.inj (hF.2.2.2.2.1.symm.trans hown2)
    have h6 := u_fits hfc hkC hkind (Or.inr hlay) hi (hty f hf) hn hfit
    refine W.putFinK hF.1 hF.2.1 hF.2.2.2.2.1 (hts _ hlink) hi hst hcf hX.1 (by rw [q2]; exact h6) q1 q3 (by rw [hsl]; exact k2_hasslot (q4 f hf)) rfl rfl hd fun H' e1 e2 e3 => ?_
    rw [hsl] at e1 ⊢
    exact fin H' e1 e2 e3
  · rw [if_neg hfin] at hlay
    have h6 := u_store hfc hkC hkind hlay hi (hty f hf) hn hfit
    refine W.putK hF.1 hF.2.1 (f := fd) ⟨hF.2.2.2.2.1, hts _ hlink, ⟨_, _, _, hi⟩, hst⟩ (by rw [q2]; exact h6) q1 q3 (by rw [hsl]; exact k2_hasslot (q4 f hf)) rfl rfl hd fun H' e1 e2 e3 => ?_
    rw [hsl] at e1 ⊢
    exact fin H' e1 e2 e3
theorem nw_putR {ci N f : Nat} {C : String} {T : u_T} {ty : Nat → FieldType} {cz : Int} (hk : nw_kl ci C T N ty) (hd : decode mi.2.1 pc = .ok (.putfield idx, 3)) (hf : f < N) (hlink : Cond.fieldLink mi.1.cls idx (T f).1 (T f).2.1 (T f).2.2.1 ∈ fr_tb) (hown : (T f).1 = mi.1.cls) (ha : nw_al n c) (hs : fr_sh c = .inr ci) (hn : narrow (ty f) (fr_r κ cz) = fr_r κ cz) (hfit : fits (ty f) (fr_r κ cz) = true) (hw : nw_WL[t]? = some (c, f)) (hr : fr_isR ci f = true) (hz : fr_rf c f = cz) (kk : nw_A l κ mi g (pc + 3) ls st (n, t + 1)) : nw_A l κ mi g pc ls (fr_r κ cz :: fr_r κ c :: st) (n, t) :=
  nw_put0 hk hd hf hlink hown ha hs hn hfit hw (by rw [fr_fv, if_pos hr, hz]) kk
theorem nw_putI {ci N f : Nat} {C : String} {T : u_T} {ty : Nat → FieldType} {z : Int} (hk : nw_kl ci C T N ty) (hd : decode mi.2.1 pc = .ok (.putfield idx, 3)) (hf : f < N) (hlink : Cond.fieldLink mi.1.cls idx (T f).1 (T f).2.1 (T f).2.2.1 ∈ fr_tb) (hown : (T f).1 = mi.1.cls) (ha : nw_al n c) (hs : fr_sh c = .inr ci) (hn : narrow (ty f) (fr_i z) = fr_i z) (hfit : fits (ty f) (fr_i z) = true) (hw : nw_WL[t]? = some (c, f)) (hr : fr_isR ci f = false) (hz : nw_m c f = z) (kk : nw_A l κ mi g (pc + 3) ls st (n, t + 1)) : nw_A l κ mi g pc ls (fr_i z :: fr_r κ c :: st) (n, t) :=
  nw_put0 hk hd hf hlink hown ha hs hn hfit hw (by rw [fr_fv, if_neg (by rw [hr]; decide), hz]) kk
theorem nw_get {ci f : Nat} {cz : Int} (hd : decode mi.2.1 pc = .ok (.getfield idx, 3)) (hf : fr_fl mi.1.cls idx ci f) (ha : nw_al n c) (hs : fr_sh c = .inr ci) (hr : fr_isR ci f = true) (hz : fr_rf c f = cz) (hw : nw_w t c f = true) (kk : nw_A l κ mi g (pc + 3) ls (fr_r κ cz :: st) (n, t)) : nw_A l κ mi g pc ls (fr_r κ c :: st) (n, t) := by
  intro p e s m args below meth c' hF hX H locs lsA hI hL hl
  obtain ⟨⟨C, T, N⟩, hq, hkN, hlink⟩ := hf
  obtain ⟨hin, hnf, -⟩ := fr_cls ci _ hq
  have K := kk p e s m args below meth c' hF hX H locs lsA hI hL hl
  have he := nw_ob_at (t := t) hI.1 ha hs
  have hv : ((List.range (fr_nf ci)).map (nw_fv κ t c ci))[f]? = some (fr_r κ cz) := by
    have : f < fr_nf ci := by rw [← hnf]; exact hkN
    simp [this, nw_fv, hw, fr_fv, hr, hz]
  rcases hlink with hlink | hlink
  · exact va_get (Ts := fr_tb) hF.1 hF.2.1 hF.2.2.2.2.2.1 hin hF.2.2.2.2.1 hF.2.2.2.2.2.2.2.1 hI.2.1 (nw_o c) he hq f hkN (hF.2.2.2.2.2.1 _ hlink) (fun _ h9 => h9) hv hd K
  · exact va_getN (Ts := fr_tb) hF.1 hF.2.1 hF.2.2.2.2.2.1 hin hF.2.2.2.2.1 hF.2.2.2.2.2.2.2.1 hI.2.1 (nw_o c) he hq f hkN (va_Nw.use rfl (hF.2.2.2.2.2.2.2.2.1 _ hlink)) (fun _ h9 => h9) hv hd K
theorem nw_iast {i z : Int} {N : Nat} (hd : decode mi.2.1 pc = .ok (.iastore, 1)) (ha : nw_al n c) (hs : fr_sh c = .inl (0, N)) (h0 : 0 ≤ i) (h1 : i < N) (hN : N ≤ 100000) (hw : nw_WL[t]? = some (c, i.toNat)) (hz : nw_m c i = z) (kk : nw_A l κ mi g (pc + 1) ls st (n, t + 1)) : nw_A l κ mi g pc ls (fr_i z :: fr_i i :: fr_r κ c :: st) (n, t) := by
  intro p e s m args below meth c' hF hX H locs lsA hI hL hlo
  have he := nw_ra_at (t := t) hI.1 ha hs
  have hK := hF.2.2.2.2.2.2.2.1
  have hin := fr_vin hN h0 h1
  refine W.iast hF.1 hF.2.1 (hI.2.1 _ _ he) ((hK.2 0 _ rfl).1 N (fun j => .int (if nw_w t c j = true then Int32.ofInt (nw_m c j) else 0))) (fun q => by cases q) (by show ¬ (_ ∨ (arrV _ _ _).slots.size ≤ _); rw [arrV_size]; exact hin) rfl rfl hd fun H1 e1 e2 e3 => ?_
  have hP1 := hI.2.1.set (e := .inl (κ.2.1 0, N, nw_ar κ (t + 1) c 0)) (nw_D κ n t) he (by
    show H1[κ.2.2.1 c]? = some (vp_cell _ _)
    rw [e1]
    simp only [nw_ar]
    rw [vp_cell_i, vp_cell_i, arrV_store]
    congr 2
    funext q
    rw [fr_clamp h0 (by omega)]
    by_cases hq : q = i.toNat
    · have : nw_w (t + 1) c q = true := (nw_ws hw c q).mpr (Or.inr ⟨rfl, hq⟩)
      rw [if_pos this]
      subst hq
      rw [Int.toNat_of_nonneg h0, hz]
      simp [updV]
    · have hww : nw_w (t + 1) c q = nw_w t c q := by
        rw [Bool.eq_iff_iff, nw_ws hw]
        exact ⟨fun x => x.elim id (fun y => absurd y.2 hq), Or.inl⟩
      rw [hww]
      simp [updV, hq]) e3
  rw [nw_set κ hI.1 ha hw (by rw [nw_ct, hs])] at hP1
  obtain ⟨g1, g2⟩ := hI.of e2 hP1 ((hI.S hL).put e2 e3 (by show κ.2.2.2.size ≤ κ.2.2.1 c; rw [hI.1 c ha.1 ha.2.1]; omega))
  exact kk p e s m args below meth c' hF hX H1 _ lsA g1 g2 hlo
theorem nw_aast {i cz : Int} {a N ci : Nat} {q : vw_C} (ht : ∀ κ, (fr_tys κ)[a]? = some (κ.2.1 a, .object q.1)) (hq : vwCl[ci]? = some q) (hx : ∀ t, nw_ar κ t c a = .inr (.inr (.inr (.inr (fun k => if nw_w t c k = true then some (κ.2.2.1 (fr_rf c k)) else none))))) (hd : decode mi.2.1 pc = .ok (.aastore, 1)) (ha : nw_al n c) (hs : fr_sh c = .inl (a, N)) (hav : nw_al n cz) (hsv : fr_sh cz = .inr ci) (h0 : 0 ≤ i) (h1 : i < N) (hN : N ≤ 100000) (hw : nw_WL[t]? = some (c, i.toNat)) (hz : fr_rf c i.toNat = cz) (kk : nw_A l κ mi g (pc + 1) ls st (n, t + 1)) : nw_A l κ mi g pc ls (fr_r κ cz :: fr_i i :: fr_r κ c :: st) (n, t) := by
  intro p e s m args below meth c' hF hX H locs lsA hI hL hlo
  have he := nw_ra_at (t := t) hI.1 ha hs
  have hev := nw_ob_at (t := t) hI.1 hav hsv
  have hK := hF.2.2.2.2.2.2.2.1
  have hin := fr_vin hN h0 h1
  obtain ⟨r', hr', cellV, g1, g2, g3, -⟩ := hI.2.1 _ _ hev
  have hcls := (hK.1 ci q hq).2
  obtain ⟨kA, comp, k1, k2, k3, -⟩ := (hK.2 a _ (ht κ)).2
  have hcomp : comp = κ.1.1 ci := Option.some.inj (k3.symm.trans hcls.1)
  subst hcomp
  obtain ⟨kC, hkC, -⟩ := hcls.2
  have hcell := hI.2.1 _ _ he
  rw [hx] at hcell
  refine W.aast hF.1 hF.2.1 hcell (fun q h => by cases h) (fun h => by cases h) k1 k2 rfl hkC ⟨fun q => hin (Or.inl q), by show _ < (arrV _ _ _).slots.size; rw [arrV_size]; exact Nat.not_le.mp fun q => hin (Or.inr q)⟩ g1 (fun q h => by rw [g3] at h; cases h) (by rw [g2]; exact hkC) (by rw [g2]; exact va_assign hcls) rfl rfl hd fun H1 e1 e2 e3 => ?_
  have hP1 := hI.2.1.set (e := .inl (κ.2.1 a, N, nw_ar κ (t + 1) c a)) (nw_D κ n t) he (by
    show H1[κ.2.2.1 c]? = some (vp_cell _ _)
    rw [e1]
    simp only [hx]
    rw [vp_cell_q, vp_cell_q, arrV_store]
    congr 2
    funext q
    rw [fr_clamp h0 (by omega)]
    by_cases hq : q = i.toNat
    · have : nw_w (t + 1) c q = true := (nw_ws hw c q).mpr (Or.inr ⟨rfl, hq⟩)
      rw [if_pos this]
      subst hq
      rw [hz]
      simp [updV, va_rf]
    · have hww : nw_w (t + 1) c q = nw_w t c q := by
        rw [Bool.eq_iff_iff, nw_ws hw]
        exact ⟨fun x => x.elim id (fun y => absurd y.2 hq), Or.inl⟩
      rw [hww]
      simp [updV, hq]) e3
  rw [nw_set κ hI.1 ha hw (by rw [nw_ct, hs])] at hP1
  obtain ⟨g1, g2⟩ := hI.of e2 hP1 ((hI.S hL).put e2 e3 (by show κ.2.2.2.size ≤ κ.2.2.1 c; rw [hI.1 c ha.1 ha.2.1]; omega))
  exact kk p e s m args below meth c' hF hX H1 _ lsA g1 g2 hlo
end NEWA
theorem miX10 : fr_mi fmX10_init 0 := ⟨⟨fr_mem 91 (by decide +kernel) rfl, fr_mem 66 (by decide +kernel) rfl, by decide, by decide, by decide +kernel, by decide⟩, rfl, fr_mem 90 (by decide +kernel) rfl, rfl⟩
theorem miX1 : fr_mi fmX1_init 0 := ⟨⟨fr_mem 99 (by decide +kernel) rfl, fr_mem 67 (by decide +kernel) rfl, by decide, by decide, by decide +kernel, by decide⟩, rfl, fr_mem 98 (by decide +kernel) rfl, rfl⟩
theorem miX7 : fr_mi fmX7_init 0 := ⟨⟨fr_mem 108 (by decide +kernel) rfl, fr_mem 68 (by decide +kernel) rfl, by decide, by decide, by decide +kernel, by decide⟩, rfl, fr_mem 107 (by decide +kernel) rfl, rfl⟩
theorem miX0 : fr_mi fmX0_init 0 := ⟨⟨fr_mem 154 (by decide +kernel) rfl, fr_mem 69 (by decide +kernel) rfl, by decide, by decide, by decide +kernel, by decide⟩, rfl, fr_mem 153 (by decide +kernel) rfl, rfl⟩
theorem miX6 : fr_mi fmX6_init 0 := ⟨⟨fr_mem 219 (by decide +kernel) rfl, fr_mem 70 (by decide +kernel) rfl, by decide, by decide, by decide +kernel, by decide⟩, rfl, fr_mem 218 (by decide +kernel) rfl, rfl⟩
theorem miX3 : fr_mi fmX3_init 0 := ⟨⟨fr_mem 247 (by decide +kernel) rfl, fr_mem 71 (by decide +kernel) rfl, by decide, by decide, by decide +kernel, by decide⟩, rfl, fr_mem 246 (by decide +kernel) rfl, rfl⟩
theorem miX2 : fr_mi fmX2_init 1 := ⟨⟨fr_mem 298 (by decide +kernel) rfl, fr_mem 72 (by decide +kernel) rfl, by decide, by decide, by decide +kernel, by decide⟩, rfl, fr_mem 297 (by decide +kernel) rfl, rfl⟩
theorem miX9 : fr_mi fmX9_init 1 := ⟨⟨fr_mem 329 (by decide +kernel) rfl, fr_mem 73 (by decide +kernel) rfl, by decide, by decide, by decide +kernel, by decide⟩, rfl, fr_mem 328 (by decide +kernel) rfl, rfl⟩
theorem miX8 : fr_mi fmX8_init 1 := ⟨⟨fr_mem 357 (by decide +kernel) rfl, fr_mem 74 (by decide +kernel) rfl, by decide, by decide, by decide +kernel, by decide⟩, rfl, fr_mem 356 (by decide +kernel) rfl, rfl⟩
theorem miX4 : fr_mi fmX4_init 1 := ⟨⟨fr_mem 373 (by decide +kernel) rfl, fr_mem 75 (by decide +kernel) rfl, by decide, by decide, by decide +kernel, by decide⟩, rfl, fr_mem 372 (by decide +kernel) rfl, rfl⟩
theorem miX5 : fr_mi fmX5_init 0 := ⟨⟨fr_mem 396 (by decide +kernel) rfl, fr_mem 76 (by decide +kernel) rfl, by decide, by decide, by decide +kernel, by decide⟩, rfl, fr_mem 395 (by decide +kernel) rfl, rfl⟩
theorem miX11 : fr_mi fmX11_init 0 := ⟨⟨fr_mem 1102 (by decide +kernel) rfl, fr_mem 77 (by decide +kernel) rfl, by decide, by decide, by decide +kernel, by decide⟩, rfl, fr_mem 1101 (by decide +kernel) rfl, rfl⟩
