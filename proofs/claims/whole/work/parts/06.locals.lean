section LOCALS
variable {l : Launch} {κ : fr_Ka} {mi : fr_Mi} {k : Nat} {Q : Option Value → fr_Me → Prop} {pc : Nat} {st : List Value} {μ : fr_Me} {r : List (Option Value)}
def fr_as (n : Nat) (ls : List (Option Value)) : List (Nat × Value) := (List.range n).filterMap (fun j => (ls[j]?.join).map (fun v => (j, v)))
theorem fr_as_mem {n : Nat} {ls : List (Option Value)} {q : Nat × Value} : q ∈ fr_as n ls ↔ q.1 < n ∧ ls[q.1]? = some (some q.2) := by
  simp only [fr_as, List.mem_filterMap, List.mem_range, Option.map_eq_some_iff, Option.join_eq_some_iff]
  constructor
  · rintro ⟨j, hj, v, hv, rfl⟩
    exact ⟨hj, hv⟩
  · rintro ⟨h1, h2⟩
    exact ⟨q.1, h1, q.2, h2, rfl⟩
theorem fr_lh.has {lsA : Array Slot} {n : Nat} {ls : List (Option Value)} (h : fr_lh lsA n ls) : lv_has lsA n (fr_as n ls) :=
  ⟨h.1, h.2.1, fun q hq => h.2.2 q.1 q.2 (fr_as_mem.mp hq).2⟩
def fr_c1 : Option Value → Bool
  | some v => v.category == 1
  | none => true
theorem fr_cat (v : Value) : v.category = 1 ∨ v.category = 2 := by cases v <;> simp [Value.category]
theorem fr_lh.set1 {lsA lsB : Array Slot} {n i : Nat} {ls : List (Option Value)} {v : Value} (h : fr_lh lsA n ls) (hi : i < ls.length) (hp : ∀ (j : Nat) (x : Option Value), j + 1 = i → ls[j]? = some x → fr_c1 x = true)
    (h2 : lv_has lsB n ((i, v) :: (fr_as n ls).filter (fun q => !(q.1 == i) && !(q.1 + 1 == i && q.2.category == 2)))) : fr_lh lsB n (ls.set i (some v)) := by
  refine ⟨h2.1, h2.2.1, fun j x hx => ?_⟩
  by_cases hj : j = i
  · subst hj
    rw [List.getElem?_set_self hi] at hx
    cases hx
    exact h2.2.2 (j, v) List.mem_cons_self
  · rw [List.getElem?_set_ne (Ne.symm hj)] at hx
    refine h2.2.2 (j, x) (List.mem_cons_of_mem _ (List.mem_filter.mpr ⟨fr_as_mem.mpr ⟨?_, hx⟩, ?_⟩))
    · have := lv_lt (h.2.2 j x hx)
      rw [h.1] at this
      exact this
    · by_cases hj2 : j + 1 = i
      · have hc := hp j (some x) hj2 hx
        simp only [fr_c1, beq_iff_eq] at hc
        simp [hj, hc]
      · simp [hj, hj2]
theorem fr_lh.set2 {lsA lsB : Array Slot} {n i : Nat} {ls : List (Option Value)} {v : Value} (h : fr_lh lsA n ls) (hi : i < ls.length) (hp : ∀ (j : Nat) (x : Option Value), j + 1 = i → ls[j]? = some x → fr_c1 x = true)
    (h2 : lv_has lsB n ((i, v) :: (fr_as n ls).filter (fun q => !(q.1 == i) && (!(q.1 == i + 1) && !(q.1 + 1 == i && q.2.category == 2))))) : fr_lh lsB n ((ls.set i (some v)).set (i + 1) none) := by
  refine ⟨h2.1, h2.2.1, fun j x hx => ?_⟩
  by_cases hk : j = i + 1
  · subst hk
    by_cases hl : i + 1 < ls.length
    · rw [List.getElem?_set_self (by simpa using hl)] at hx
      cases hx
    · rw [List.getElem?_eq_none (by simp; omega)] at hx
      cases hx
  rw [List.getElem?_set_ne (Ne.symm hk)] at hx
  by_cases hj : j = i
  · subst hj
    rw [List.getElem?_set_self hi] at hx
    cases hx
    exact h2.2.2 (j, v) List.mem_cons_self
  · rw [List.getElem?_set_ne (Ne.symm hj)] at hx
    refine h2.2.2 (j, x) (List.mem_cons_of_mem _ (List.mem_filter.mpr ⟨fr_as_mem.mpr ⟨?_, hx⟩, ?_⟩))
    · have := lv_lt (h.2.2 j x hx)
      rw [h.1] at this
      exact this
    · by_cases hj2 : j + 1 = i
      · have hc := hp j (some x) hj2 hx
        simp only [fr_c1, beq_iff_eq] at hc
        simp [hj, hc, hk]
      · simp [hj, hj2, hk]
theorem fr_hp {ls : List (Option Value)} {i : Nat} {y : Option Value} (h : ls[i]? = some y) (hc : fr_c1 y = true) : ∀ (j : Nat) (x : Option Value), j + 1 = i + 1 → ls[j]? = some x → fr_c1 x = true := by
  intro j x hj hx
  have : j = i := by omega
  subst this
  rw [h] at hx
  cases hx
  exact hc
theorem fr_hp0 {ls : List (Option Value)} : ∀ (j : Nat) (x : Option Value), j + 1 = 0 → ls[j]? = some x → fr_c1 x = true := fun _ _ h => by omega

theorem fr_il0 {z : Int} (hd : decode mi.2.1 pc = .ok (.iload_n 0, 1)) (kk : fr_A l κ mi k Q (pc + 1) (some (fr_i z) :: r) (fr_i z :: st) μ) : fr_A l κ mi k Q pc (some (fr_i z) :: r) st μ := by
  intro p e s m args below meth c hF H locs lsA hI hL hl
  exact lv_iload_n hF.1 hF.2.1 hd rfl (hl.2.2 0 _ rfl) (kk p e s m args below meth c hF H locs lsA hI hL hl)
theorem fr_al0 {z : Nat} (hd : decode mi.2.1 pc = .ok (.aload_n 0, 1)) (kk : fr_A l κ mi k Q (pc + 1) (some (Value.ref z) :: r) (Value.ref z :: st) μ) : fr_A l κ mi k Q pc (some (Value.ref z) :: r) st μ := by
  intro p e s m args below meth c hF H locs lsA hI hL hl
  exact lv_aload_n hF.1 hF.2.1 hd rfl (hl.2.2 0 _ rfl) (kk p e s m args below meth c hF H locs lsA hI hL hl)
theorem fr_ll0 {z : Int} (hd : decode mi.2.1 pc = .ok (.lload_n 0, 1)) (kk : fr_A l κ mi k Q (pc + 1) (some (fr_j z) :: r) (fr_j z :: st) μ) : fr_A l κ mi k Q pc (some (fr_j z) :: r) st μ := by
  intro p e s m args below meth c hF H locs lsA hI hL hl
  exact lv_lload_n hF.1 hF.2.1 hd rfl (hl.2.2 0 _ rfl) (kk p e s m args below meth c hF H locs lsA hI hL hl)
theorem fr_is0 {y : Option Value} {z : Int} (hd : decode mi.2.1 pc = .ok (.istore_n 0, 1)) (hn : 0 < mi.2.2.1) (kk : fr_A l κ mi k Q (pc + 1) (some (fr_i z) :: r) st μ) : fr_A l κ mi k Q pc (y :: r) (fr_i z :: st) μ := by
  intro p e s m args below meth c hF H locs lsA hI hL hl
  exact lv_istore_n hF.1 hF.2.1 hd rfl hl.has hn rfl (fun lsB hB => kk p e s m args below meth c hF H locs lsB hI hL (hl.set1 (by simp) fr_hp0 hB))
theorem fr_as0 {y : Option Value} {z : Nat} (hd : decode mi.2.1 pc = .ok (.astore_n 0, 1)) (hn : 0 < mi.2.2.1) (kk : fr_A l κ mi k Q (pc + 1) (some (Value.ref z) :: r) st μ) : fr_A l κ mi k Q pc (y :: r) (Value.ref z :: st) μ := by
  intro p e s m args below meth c hF H locs lsA hI hL hl
  exact lv_astore_n hF.1 hF.2.1 hd rfl hl.has hn rfl (fun lsB hB => kk p e s m args below meth c hF H locs lsB hI hL (hl.set1 (by simp) fr_hp0 hB))
theorem fr_ls0 {y y2 : Option Value} {z : Int} (hd : decode mi.2.1 pc = .ok (.lstore_n 0, 1)) (hn : 0 + 1 < mi.2.2.1) (kk : fr_A l κ mi k Q (pc + 1) (some (fr_j z) :: none :: r) st μ) : fr_A l κ mi k Q pc (y :: y2 :: r) (fr_j z :: st) μ := by
  intro p e s m args below meth c hF H locs lsA hI hL hl
  exact lv_lstore_n hF.1 hF.2.1 hd rfl hl.has hn rfl (fun lsB hB => kk p e s m args below meth c hF H locs lsB hI hL (hl.set2 (by simp) fr_hp0 hB))
theorem fr_ii0 {z n : Int} (hd : decode mi.2.1 pc = .ok (.iinc 0 n, 3)) (hn : 0 < mi.2.2.1) (kk : fr_A l κ mi k Q (pc + 3) (some (fr_i (z + n)) :: r) st μ) : fr_A l κ mi k Q pc (some (fr_i z) :: r) st μ := by
  intro p e s m args below meth c hF H locs lsA hI hL hl
  have hm : ((0, fr_i z) : Nat × Value) ∈ fr_as mi.2.2.1 (some (fr_i z) :: r) := fr_as_mem.mpr ⟨hn, rfl⟩
  obtain ⟨j, hj⟩ := List.getElem?_of_mem hm
  exact lv_iinc hF.1 hF.2.1 hd hl.has hj (Int32.ofInt_add z n).symm hn rfl (fun lsB hB => kk p e s m args below meth c hF H locs lsB hI hL (hl.set1 (by simp) fr_hp0 hB))
theorem fr_il1 {x0 : Option Value} {z : Int} (hd : decode mi.2.1 pc = .ok (.iload_n 1, 1)) (kk : fr_A l κ mi k Q (pc + 1) (x0 :: some (fr_i z) :: r) (fr_i z :: st) μ) : fr_A l κ mi k Q pc (x0 :: some (fr_i z) :: r) st μ := by
  intro p e s m args below meth c hF H locs lsA hI hL hl
  exact lv_iload_n hF.1 hF.2.1 hd rfl (hl.2.2 1 _ rfl) (kk p e s m args below meth c hF H locs lsA hI hL hl)
theorem fr_al1 {x0 : Option Value} {z : Nat} (hd : decode mi.2.1 pc = .ok (.aload_n 1, 1)) (kk : fr_A l κ mi k Q (pc + 1) (x0 :: some (Value.ref z) :: r) (Value.ref z :: st) μ) : fr_A l κ mi k Q pc (x0 :: some (Value.ref z) :: r) st μ := by
  intro p e s m args below meth c hF H locs lsA hI hL hl
  exact lv_aload_n hF.1 hF.2.1 hd rfl (hl.2.2 1 _ rfl) (kk p e s m args below meth c hF H locs lsA hI hL hl)
theorem fr_ll1 {x0 : Option Value} {z : Int} (hd : decode mi.2.1 pc = .ok (.lload_n 1, 1)) (kk : fr_A l κ mi k Q (pc + 1) (x0 :: some (fr_j z) :: r) (fr_j z :: st) μ) : fr_A l κ mi k Q pc (x0 :: some (fr_j z) :: r) st μ := by
  intro p e s m args below meth c hF H locs lsA hI hL hl
  exact lv_lload_n hF.1 hF.2.1 hd rfl (hl.2.2 1 _ rfl) (kk p e s m args below meth c hF H locs lsA hI hL hl)
theorem fr_is1 {x0 : Option Value} {y : Option Value} {z : Int} (hd : decode mi.2.1 pc = .ok (.istore_n 1, 1)) (hc : fr_c1 x0 = true) (hn : 1 < mi.2.2.1) (kk : fr_A l κ mi k Q (pc + 1) (x0 :: some (fr_i z) :: r) st μ) : fr_A l κ mi k Q pc (x0 :: y :: r) (fr_i z :: st) μ := by
  intro p e s m args below meth c hF H locs lsA hI hL hl
  exact lv_istore_n hF.1 hF.2.1 hd rfl hl.has hn rfl (fun lsB hB => kk p e s m args below meth c hF H locs lsB hI hL (hl.set1 (by simp) (fr_hp (i := 0) (y := x0) rfl hc) hB))
theorem fr_as1 {x0 : Option Value} {y : Option Value} {z : Nat} (hd : decode mi.2.1 pc = .ok (.astore_n 1, 1)) (hc : fr_c1 x0 = true) (hn : 1 < mi.2.2.1) (kk : fr_A l κ mi k Q (pc + 1) (x0 :: some (Value.ref z) :: r) st μ) : fr_A l κ mi k Q pc (x0 :: y :: r) (Value.ref z :: st) μ := by
  intro p e s m args below meth c hF H locs lsA hI hL hl
  exact lv_astore_n hF.1 hF.2.1 hd rfl hl.has hn rfl (fun lsB hB => kk p e s m args below meth c hF H locs lsB hI hL (hl.set1 (by simp) (fr_hp (i := 0) (y := x0) rfl hc) hB))
theorem fr_ls1 {x0 : Option Value} {y y2 : Option Value} {z : Int} (hd : decode mi.2.1 pc = .ok (.lstore_n 1, 1)) (hc : fr_c1 x0 = true) (hn : 1 + 1 < mi.2.2.1) (kk : fr_A l κ mi k Q (pc + 1) (x0 :: some (fr_j z) :: none :: r) st μ) : fr_A l κ mi k Q pc (x0 :: y :: y2 :: r) (fr_j z :: st) μ := by
  intro p e s m args below meth c hF H locs lsA hI hL hl
  exact lv_lstore_n hF.1 hF.2.1 hd rfl hl.has hn rfl (fun lsB hB => kk p e s m args below meth c hF H locs lsB hI hL (hl.set2 (by simp) (fr_hp (i := 0) (y := x0) rfl hc) hB))
theorem fr_ii1 {x0 : Option Value} {z n : Int} (hd : decode mi.2.1 pc = .ok (.iinc 1 n, 3)) (hc : fr_c1 x0 = true) (hn : 1 < mi.2.2.1) (kk : fr_A l κ mi k Q (pc + 3) (x0 :: some (fr_i (z + n)) :: r) st μ) : fr_A l κ mi k Q pc (x0 :: some (fr_i z) :: r) st μ := by
  intro p e s m args below meth c hF H locs lsA hI hL hl
  have hm : ((1, fr_i z) : Nat × Value) ∈ fr_as mi.2.2.1 (x0 :: some (fr_i z) :: r) := fr_as_mem.mpr ⟨hn, rfl⟩
  obtain ⟨j, hj⟩ := List.getElem?_of_mem hm
  exact lv_iinc hF.1 hF.2.1 hd hl.has hj (Int32.ofInt_add z n).symm hn rfl (fun lsB hB => kk p e s m args below meth c hF H locs lsB hI hL (hl.set1 (by simp) (fr_hp (i := 0) (y := x0) rfl hc) hB))
theorem fr_il2 {x0 x1 : Option Value} {z : Int} (hd : decode mi.2.1 pc = .ok (.iload_n 2, 1)) (kk : fr_A l κ mi k Q (pc + 1) (x0 :: x1 :: some (fr_i z) :: r) (fr_i z :: st) μ) : fr_A l κ mi k Q pc (x0 :: x1 :: some (fr_i z) :: r) st μ := by
  intro p e s m args below meth c hF H locs lsA hI hL hl
  exact lv_iload_n hF.1 hF.2.1 hd rfl (hl.2.2 2 _ rfl) (kk p e s m args below meth c hF H locs lsA hI hL hl)
theorem fr_al2 {x0 x1 : Option Value} {z : Nat} (hd : decode mi.2.1 pc = .ok (.aload_n 2, 1)) (kk : fr_A l κ mi k Q (pc + 1) (x0 :: x1 :: some (Value.ref z) :: r) (Value.ref z :: st) μ) : fr_A l κ mi k Q pc (x0 :: x1 :: some (Value.ref z) :: r) st μ := by
  intro p e s m args below meth c hF H locs lsA hI hL hl
  exact lv_aload_n hF.1 hF.2.1 hd rfl (hl.2.2 2 _ rfl) (kk p e s m args below meth c hF H locs lsA hI hL hl)
theorem fr_ll2 {x0 x1 : Option Value} {z : Int} (hd : decode mi.2.1 pc = .ok (.lload_n 2, 1)) (kk : fr_A l κ mi k Q (pc + 1) (x0 :: x1 :: some (fr_j z) :: r) (fr_j z :: st) μ) : fr_A l κ mi k Q pc (x0 :: x1 :: some (fr_j z) :: r) st μ := by
  intro p e s m args below meth c hF H locs lsA hI hL hl
  exact lv_lload_n hF.1 hF.2.1 hd rfl (hl.2.2 2 _ rfl) (kk p e s m args below meth c hF H locs lsA hI hL hl)
theorem fr_is2 {x0 x1 : Option Value} {y : Option Value} {z : Int} (hd : decode mi.2.1 pc = .ok (.istore_n 2, 1)) (hc : fr_c1 x1 = true) (hn : 2 < mi.2.2.1) (kk : fr_A l κ mi k Q (pc + 1) (x0 :: x1 :: some (fr_i z) :: r) st μ) : fr_A l κ mi k Q pc (x0 :: x1 :: y :: r) (fr_i z :: st) μ := by
  intro p e s m args below meth c hF H locs lsA hI hL hl
  exact lv_istore_n hF.1 hF.2.1 hd rfl hl.has hn rfl (fun lsB hB => kk p e s m args below meth c hF H locs lsB hI hL (hl.set1 (by simp) (fr_hp (i := 1) (y := x1) rfl hc) hB))
theorem fr_as2 {x0 x1 : Option Value} {y : Option Value} {z : Nat} (hd : decode mi.2.1 pc = .ok (.astore_n 2, 1)) (hc : fr_c1 x1 = true) (hn : 2 < mi.2.2.1) (kk : fr_A l κ mi k Q (pc + 1) (x0 :: x1 :: some (Value.ref z) :: r) st μ) : fr_A l κ mi k Q pc (x0 :: x1 :: y :: r) (Value.ref z :: st) μ := by
  intro p e s m args below meth c hF H locs lsA hI hL hl
  exact lv_astore_n hF.1 hF.2.1 hd rfl hl.has hn rfl (fun lsB hB => kk p e s m args below meth c hF H locs lsB hI hL (hl.set1 (by simp) (fr_hp (i := 1) (y := x1) rfl hc) hB))
theorem fr_ls2 {x0 x1 : Option Value} {y y2 : Option Value} {z : Int} (hd : decode mi.2.1 pc = .ok (.lstore_n 2, 1)) (hc : fr_c1 x1 = true) (hn : 2 + 1 < mi.2.2.1) (kk : fr_A l κ mi k Q (pc + 1) (x0 :: x1 :: some (fr_j z) :: none :: r) st μ) : fr_A l κ mi k Q pc (x0 :: x1 :: y :: y2 :: r) (fr_j z :: st) μ := by
  intro p e s m args below meth c hF H locs lsA hI hL hl
  exact lv_lstore_n hF.1 hF.2.1 hd rfl hl.has hn rfl (fun lsB hB => kk p e s m args below meth c hF H locs lsB hI hL (hl.set2 (by simp) (fr_hp (i := 1) (y := x1) rfl hc) hB))
theorem fr_ii2 {x0 x1 : Option Value} {z n : Int} (hd : decode mi.2.1 pc = .ok (.iinc 2 n, 3)) (hc : fr_c1 x1 = true) (hn : 2 < mi.2.2.1) (kk : fr_A l κ mi k Q (pc + 3) (x0 :: x1 :: some (fr_i (z + n)) :: r) st μ) : fr_A l κ mi k Q pc (x0 :: x1 :: some (fr_i z) :: r) st μ := by
  intro p e s m args below meth c hF H locs lsA hI hL hl
  have hm : ((2, fr_i z) : Nat × Value) ∈ fr_as mi.2.2.1 (x0 :: x1 :: some (fr_i z) :: r) := fr_as_mem.mpr ⟨hn, rfl⟩
  obtain ⟨j, hj⟩ := List.getElem?_of_mem hm
  exact lv_iinc hF.1 hF.2.1 hd hl.has hj (Int32.ofInt_add z n).symm hn rfl (fun lsB hB => kk p e s m args below meth c hF H locs lsB hI hL (hl.set1 (by simp) (fr_hp (i := 1) (y := x1) rfl hc) hB))
theorem fr_il3 {x0 x1 x2 : Option Value} {z : Int} (hd : decode mi.2.1 pc = .ok (.iload_n 3, 1)) (kk : fr_A l κ mi k Q (pc + 1) (x0 :: x1 :: x2 :: some (fr_i z) :: r) (fr_i z :: st) μ) : fr_A l κ mi k Q pc (x0 :: x1 :: x2 :: some (fr_i z) :: r) st μ := by
  intro p e s m args below meth c hF H locs lsA hI hL hl
  exact lv_iload_n hF.1 hF.2.1 hd rfl (hl.2.2 3 _ rfl) (kk p e s m args below meth c hF H locs lsA hI hL hl)
theorem fr_al3 {x0 x1 x2 : Option Value} {z : Nat} (hd : decode mi.2.1 pc = .ok (.aload_n 3, 1)) (kk : fr_A l κ mi k Q (pc + 1) (x0 :: x1 :: x2 :: some (Value.ref z) :: r) (Value.ref z :: st) μ) : fr_A l κ mi k Q pc (x0 :: x1 :: x2 :: some (Value.ref z) :: r) st μ := by
  intro p e s m args below meth c hF H locs lsA hI hL hl
  exact lv_aload_n hF.1 hF.2.1 hd rfl (hl.2.2 3 _ rfl) (kk p e s m args below meth c hF H locs lsA hI hL hl)
theorem fr_ll3 {x0 x1 x2 : Option Value} {z : Int} (hd : decode mi.2.1 pc = .ok (.lload_n 3, 1)) (kk : fr_A l κ mi k Q (pc + 1) (x0 :: x1 :: x2 :: some (fr_j z) :: r) (fr_j z :: st) μ) : fr_A l κ mi k Q pc (x0 :: x1 :: x2 :: some (fr_j z) :: r) st μ := by
  intro p e s m args below meth c hF H locs lsA hI hL hl
  exact lv_lload_n hF.1 hF.2.1 hd rfl (hl.2.2 3 _ rfl) (kk p e s m args below meth c hF H locs lsA hI hL hl)
theorem fr_is3 {x0 x1 x2 : Option Value} {y : Option Value} {z : Int} (hd : decode mi.2.1 pc = .ok (.istore_n 3, 1)) (hc : fr_c1 x2 = true) (hn : 3 < mi.2.2.1) (kk : fr_A l κ mi k Q (pc + 1) (x0 :: x1 :: x2 :: some (fr_i z) :: r) st μ) : fr_A l κ mi k Q pc (x0 :: x1 :: x2 :: y :: r) (fr_i z :: st) μ := by
  intro p e s m args below meth c hF H locs lsA hI hL hl
  exact lv_istore_n hF.1 hF.2.1 hd rfl hl.has hn rfl (fun lsB hB => kk p e s m args below meth c hF H locs lsB hI hL (hl.set1 (by simp) (fr_hp (i := 2) (y := x2) rfl hc) hB))
theorem fr_as3 {x0 x1 x2 : Option Value} {y : Option Value} {z : Nat} (hd : decode mi.2.1 pc = .ok (.astore_n 3, 1)) (hc : fr_c1 x2 = true) (hn : 3 < mi.2.2.1) (kk : fr_A l κ mi k Q (pc + 1) (x0 :: x1 :: x2 :: some (Value.ref z) :: r) st μ) : fr_A l κ mi k Q pc (x0 :: x1 :: x2 :: y :: r) (Value.ref z :: st) μ := by
  intro p e s m args below meth c hF H locs lsA hI hL hl
  exact lv_astore_n hF.1 hF.2.1 hd rfl hl.has hn rfl (fun lsB hB => kk p e s m args below meth c hF H locs lsB hI hL (hl.set1 (by simp) (fr_hp (i := 2) (y := x2) rfl hc) hB))
theorem fr_ls3 {x0 x1 x2 : Option Value} {y y2 : Option Value} {z : Int} (hd : decode mi.2.1 pc = .ok (.lstore_n 3, 1)) (hc : fr_c1 x2 = true) (hn : 3 + 1 < mi.2.2.1) (kk : fr_A l κ mi k Q (pc + 1) (x0 :: x1 :: x2 :: some (fr_j z) :: none :: r) st μ) : fr_A l κ mi k Q pc (x0 :: x1 :: x2 :: y :: y2 :: r) (fr_j z :: st) μ := by
  intro p e s m args below meth c hF H locs lsA hI hL hl
  exact lv_lstore_n hF.1 hF.2.1 hd rfl hl.has hn rfl (fun lsB hB => kk p e s m args below meth c hF H locs lsB hI hL (hl.set2 (by simp) (fr_hp (i := 2) (y := x2) rfl hc) hB))
theorem fr_ii3 {x0 x1 x2 : Option Value} {z n : Int} (hd : decode mi.2.1 pc = .ok (.iinc 3 n, 3)) (hc : fr_c1 x2 = true) (hn : 3 < mi.2.2.1) (kk : fr_A l κ mi k Q (pc + 3) (x0 :: x1 :: x2 :: some (fr_i (z + n)) :: r) st μ) : fr_A l κ mi k Q pc (x0 :: x1 :: x2 :: some (fr_i z) :: r) st μ := by
  intro p e s m args below meth c hF H locs lsA hI hL hl
  have hm : ((3, fr_i z) : Nat × Value) ∈ fr_as mi.2.2.1 (x0 :: x1 :: x2 :: some (fr_i z) :: r) := fr_as_mem.mpr ⟨hn, rfl⟩
  obtain ⟨j, hj⟩ := List.getElem?_of_mem hm
  exact lv_iinc hF.1 hF.2.1 hd hl.has hj (Int32.ofInt_add z n).symm hn rfl (fun lsB hB => kk p e s m args below meth c hF H locs lsB hI hL (hl.set1 (by simp) (fr_hp (i := 2) (y := x2) rfl hc) hB))
theorem fr_il4 {x0 x1 x2 x3 : Option Value} {z : Int} (hd : decode mi.2.1 pc = .ok (.iload 4, 2)) (kk : fr_A l κ mi k Q (pc + 2) (x0 :: x1 :: x2 :: x3 :: some (fr_i z) :: r) (fr_i z :: st) μ) : fr_A l κ mi k Q pc (x0 :: x1 :: x2 :: x3 :: some (fr_i z) :: r) st μ := by
  intro p e s m args below meth c hF H locs lsA hI hL hl
  exact lv_iload hF.1 hF.2.1 hd (hl.2.2 4 _ rfl) (kk p e s m args below meth c hF H locs lsA hI hL hl)
theorem fr_al4 {x0 x1 x2 x3 : Option Value} {z : Nat} (hd : decode mi.2.1 pc = .ok (.aload 4, 2)) (kk : fr_A l κ mi k Q (pc + 2) (x0 :: x1 :: x2 :: x3 :: some (Value.ref z) :: r) (Value.ref z :: st) μ) : fr_A l κ mi k Q pc (x0 :: x1 :: x2 :: x3 :: some (Value.ref z) :: r) st μ := by
  intro p e s m args below meth c hF H locs lsA hI hL hl
  exact lv_aload hF.1 hF.2.1 hd (hl.2.2 4 _ rfl) (kk p e s m args below meth c hF H locs lsA hI hL hl)
theorem fr_ll4 {x0 x1 x2 x3 : Option Value} {z : Int} (hd : decode mi.2.1 pc = .ok (.lload 4, 2)) (kk : fr_A l κ mi k Q (pc + 2) (x0 :: x1 :: x2 :: x3 :: some (fr_j z) :: r) (fr_j z :: st) μ) : fr_A l κ mi k Q pc (x0 :: x1 :: x2 :: x3 :: some (fr_j z) :: r) st μ := by
  intro p e s m args below meth c hF H locs lsA hI hL hl
  exact lv_lload hF.1 hF.2.1 hd (hl.2.2 4 _ rfl) (kk p e s m args below meth c hF H locs lsA hI hL hl)
theorem fr_is4 {x0 x1 x2 x3 : Option Value} {y : Option Value} {z : Int} (hd : decode mi.2.1 pc = .ok (.istore 4, 2)) (hc : fr_c1 x3 = true) (hn : 4 < mi.2.2.1) (kk : fr_A l κ mi k Q (pc + 2) (x0 :: x1 :: x2 :: x3 :: some (fr_i z) :: r) st μ) : fr_A l κ mi k Q pc (x0 :: x1 :: x2 :: x3 :: y :: r) (fr_i z :: st) μ := by
  intro p e s m args below meth c hF H locs lsA hI hL hl
  exact lv_istore hF.1 hF.2.1 hd hl.has hn rfl (fun lsB hB => kk p e s m args below meth c hF H locs lsB hI hL (hl.set1 (by simp) (fr_hp (i := 3) (y := x3) rfl hc) hB))
theorem fr_as4 {x0 x1 x2 x3 : Option Value} {y : Option Value} {z : Nat} (hd : decode mi.2.1 pc = .ok (.astore 4, 2)) (hc : fr_c1 x3 = true) (hn : 4 < mi.2.2.1) (kk : fr_A l κ mi k Q (pc + 2) (x0 :: x1 :: x2 :: x3 :: some (Value.ref z) :: r) st μ) : fr_A l κ mi k Q pc (x0 :: x1 :: x2 :: x3 :: y :: r) (Value.ref z :: st) μ := by
  intro p e s m args below meth c hF H locs lsA hI hL hl
  exact lv_astore hF.1 hF.2.1 hd hl.has hn rfl (fun lsB hB => kk p e s m args below meth c hF H locs lsB hI hL (hl.set1 (by simp) (fr_hp (i := 3) (y := x3) rfl hc) hB))
theorem fr_ls4 {x0 x1 x2 x3 : Option Value} {y y2 : Option Value} {z : Int} (hd : decode mi.2.1 pc = .ok (.lstore 4, 2)) (hc : fr_c1 x3 = true) (hn : 4 + 1 < mi.2.2.1) (kk : fr_A l κ mi k Q (pc + 2) (x0 :: x1 :: x2 :: x3 :: some (fr_j z) :: none :: r) st μ) : fr_A l κ mi k Q pc (x0 :: x1 :: x2 :: x3 :: y :: y2 :: r) (fr_j z :: st) μ := by
  intro p e s m args below meth c hF H locs lsA hI hL hl
  exact lv_lstore hF.1 hF.2.1 hd hl.has hn rfl (fun lsB hB => kk p e s m args below meth c hF H locs lsB hI hL (hl.set2 (by simp) (fr_hp (i := 3) (y := x3) rfl hc) hB))
theorem fr_ii4 {x0 x1 x2 x3 : Option Value} {z n : Int} (hd : decode mi.2.1 pc = .ok (.iinc 4 n, 3)) (hc : fr_c1 x3 = true) (hn : 4 < mi.2.2.1) (kk : fr_A l κ mi k Q (pc + 3) (x0 :: x1 :: x2 :: x3 :: some (fr_i (z + n)) :: r) st μ) : fr_A l κ mi k Q pc (x0 :: x1 :: x2 :: x3 :: some (fr_i z) :: r) st μ := by
  intro p e s m args below meth c hF H locs lsA hI hL hl
  have hm : ((4, fr_i z) : Nat × Value) ∈ fr_as mi.2.2.1 (x0 :: x1 :: x2 :: x3 :: some (fr_i z) :: r) := fr_as_mem.mpr ⟨hn, rfl⟩
  obtain ⟨j, hj⟩ := List.getElem?_of_mem hm
  exact lv_iinc hF.1 hF.2.1 hd hl.has hj (Int32.ofInt_add z n).symm hn rfl (fun lsB hB => kk p e s m args below meth c hF H locs lsB hI hL (hl.set1 (by simp) (fr_hp (i := 3) (y := x3) rfl hc) hB))
theorem fr_il5 {x0 x1 x2 x3 x4 : Option Value} {z : Int} (hd : decode mi.2.1 pc = .ok (.iload 5, 2)) (kk : fr_A l κ mi k Q (pc + 2) (x0 :: x1 :: x2 :: x3 :: x4 :: some (fr_i z) :: r) (fr_i z :: st) μ) : fr_A l κ mi k Q pc (x0 :: x1 :: x2 :: x3 :: x4 :: some (fr_i z) :: r) st μ := by
  intro p e s m args below meth c hF H locs lsA hI hL hl
  exact lv_iload hF.1 hF.2.1 hd (hl.2.2 5 _ rfl) (kk p e s m args below meth c hF H locs lsA hI hL hl)
theorem fr_al5 {x0 x1 x2 x3 x4 : Option Value} {z : Nat} (hd : decode mi.2.1 pc = .ok (.aload 5, 2)) (kk : fr_A l κ mi k Q (pc + 2) (x0 :: x1 :: x2 :: x3 :: x4 :: some (Value.ref z) :: r) (Value.ref z :: st) μ) : fr_A l κ mi k Q pc (x0 :: x1 :: x2 :: x3 :: x4 :: some (Value.ref z) :: r) st μ := by
  intro p e s m args below meth c hF H locs lsA hI hL hl
  exact lv_aload hF.1 hF.2.1 hd (hl.2.2 5 _ rfl) (kk p e s m args below meth c hF H locs lsA hI hL hl)
theorem fr_ll5 {x0 x1 x2 x3 x4 : Option Value} {z : Int} (hd : decode mi.2.1 pc = .ok (.lload 5, 2)) (kk : fr_A l κ mi k Q (pc + 2) (x0 :: x1 :: x2 :: x3 :: x4 :: some (fr_j z) :: r) (fr_j z :: st) μ) : fr_A l κ mi k Q pc (x0 :: x1 :: x2 :: x3 :: x4 :: some (fr_j z) :: r) st μ := by
  intro p e s m args below meth c hF H locs lsA hI hL hl
  exact lv_lload hF.1 hF.2.1 hd (hl.2.2 5 _ rfl) (kk p e s m args below meth c hF H locs lsA hI hL hl)
theorem fr_is5 {x0 x1 x2 x3 x4 : Option Value} {y : Option Value} {z : Int} (hd : decode mi.2.1 pc = .ok (.istore 5, 2)) (hc : fr_c1 x4 = true) (hn : 5 < mi.2.2.1) (kk : fr_A l κ mi k Q (pc + 2) (x0 :: x1 :: x2 :: x3 :: x4 :: some (fr_i z) :: r) st μ) : fr_A l κ mi k Q pc (x0 :: x1 :: x2 :: x3 :: x4 :: y :: r) (fr_i z :: st) μ := by
  intro p e s m args below meth c hF H locs lsA hI hL hl
  exact lv_istore hF.1 hF.2.1 hd hl.has hn rfl (fun lsB hB => kk p e s m args below meth c hF H locs lsB hI hL (hl.set1 (by simp) (fr_hp (i := 4) (y := x4) rfl hc) hB))
theorem fr_as5 {x0 x1 x2 x3 x4 : Option Value} {y : Option Value} {z : Nat} (hd : decode mi.2.1 pc = .ok (.astore 5, 2)) (hc : fr_c1 x4 = true) (hn : 5 < mi.2.2.1) (kk : fr_A l κ mi k Q (pc + 2) (x0 :: x1 :: x2 :: x3 :: x4 :: some (Value.ref z) :: r) st μ) : fr_A l κ mi k Q pc (x0 :: x1 :: x2 :: x3 :: x4 :: y :: r) (Value.ref z :: st) μ := by
  intro p e s m args below meth c hF H locs lsA hI hL hl
  exact lv_astore hF.1 hF.2.1 hd hl.has hn rfl (fun lsB hB => kk p e s m args below meth c hF H locs lsB hI hL (hl.set1 (by simp) (fr_hp (i := 4) (y := x4) rfl hc) hB))
theorem fr_ls5 {x0 x1 x2 x3 x4 : Option Value} {y y2 : Option Value} {z : Int} (hd : decode mi.2.1 pc = .ok (.lstore 5, 2)) (hc : fr_c1 x4 = true) (hn : 5 + 1 < mi.2.2.1) (kk : fr_A l κ mi k Q (pc + 2) (x0 :: x1 :: x2 :: x3 :: x4 :: some (fr_j z) :: none :: r) st μ) : fr_A l κ mi k Q pc (x0 :: x1 :: x2 :: x3 :: x4 :: y :: y2 :: r) (fr_j z :: st) μ := by
  intro p e s m args below meth c hF H locs lsA hI hL hl
  exact lv_lstore hF.1 hF.2.1 hd hl.has hn rfl (fun lsB hB => kk p e s m args below meth c hF H locs lsB hI hL (hl.set2 (by simp) (fr_hp (i := 4) (y := x4) rfl hc) hB))
theorem fr_ii5 {x0 x1 x2 x3 x4 : Option Value} {z n : Int} (hd : decode mi.2.1 pc = .ok (.iinc 5 n, 3)) (hc : fr_c1 x4 = true) (hn : 5 < mi.2.2.1) (kk : fr_A l κ mi k Q (pc + 3) (x0 :: x1 :: x2 :: x3 :: x4 :: some (fr_i (z + n)) :: r) st μ) : fr_A l κ mi k Q pc (x0 :: x1 :: x2 :: x3 :: x4 :: some (fr_i z) :: r) st μ := by
  intro p e s m args below meth c hF H locs lsA hI hL hl
  have hm : ((5, fr_i z) : Nat × Value) ∈ fr_as mi.2.2.1 (x0 :: x1 :: x2 :: x3 :: x4 :: some (fr_i z) :: r) := fr_as_mem.mpr ⟨hn, rfl⟩
  obtain ⟨j, hj⟩ := List.getElem?_of_mem hm
  exact lv_iinc hF.1 hF.2.1 hd hl.has hj (Int32.ofInt_add z n).symm hn rfl (fun lsB hB => kk p e s m args below meth c hF H locs lsB hI hL (hl.set1 (by simp) (fr_hp (i := 4) (y := x4) rfl hc) hB))
theorem fr_il6 {x0 x1 x2 x3 x4 x5 : Option Value} {z : Int} (hd : decode mi.2.1 pc = .ok (.iload 6, 2)) (kk : fr_A l κ mi k Q (pc + 2) (x0 :: x1 :: x2 :: x3 :: x4 :: x5 :: some (fr_i z) :: r) (fr_i z :: st) μ) : fr_A l κ mi k Q pc (x0 :: x1 :: x2 :: x3 :: x4 :: x5 :: some (fr_i z) :: r) st μ := by
  intro p e s m args below meth c hF H locs lsA hI hL hl
  exact lv_iload hF.1 hF.2.1 hd (hl.2.2 6 _ rfl) (kk p e s m args below meth c hF H locs lsA hI hL hl)
theorem fr_al6 {x0 x1 x2 x3 x4 x5 : Option Value} {z : Nat} (hd : decode mi.2.1 pc = .ok (.aload 6, 2)) (kk : fr_A l κ mi k Q (pc + 2) (x0 :: x1 :: x2 :: x3 :: x4 :: x5 :: some (Value.ref z) :: r) (Value.ref z :: st) μ) : fr_A l κ mi k Q pc (x0 :: x1 :: x2 :: x3 :: x4 :: x5 :: some (Value.ref z) :: r) st μ := by
  intro p e s m args below meth c hF H locs lsA hI hL hl
  exact lv_aload hF.1 hF.2.1 hd (hl.2.2 6 _ rfl) (kk p e s m args below meth c hF H locs lsA hI hL hl)
theorem fr_ll6 {x0 x1 x2 x3 x4 x5 : Option Value} {z : Int} (hd : decode mi.2.1 pc = .ok (.lload 6, 2)) (kk : fr_A l κ mi k Q (pc + 2) (x0 :: x1 :: x2 :: x3 :: x4 :: x5 :: some (fr_j z) :: r) (fr_j z :: st) μ) : fr_A l κ mi k Q pc (x0 :: x1 :: x2 :: x3 :: x4 :: x5 :: some (fr_j z) :: r) st μ := by
  intro p e s m args below meth c hF H locs lsA hI hL hl
  exact lv_lload hF.1 hF.2.1 hd (hl.2.2 6 _ rfl) (kk p e s m args below meth c hF H locs lsA hI hL hl)
theorem fr_is6 {x0 x1 x2 x3 x4 x5 : Option Value} {y : Option Value} {z : Int} (hd : decode mi.2.1 pc = .ok (.istore 6, 2)) (hc : fr_c1 x5 = true) (hn : 6 < mi.2.2.1) (kk : fr_A l κ mi k Q (pc + 2) (x0 :: x1 :: x2 :: x3 :: x4 :: x5 :: some (fr_i z) :: r) st μ) : fr_A l κ mi k Q pc (x0 :: x1 :: x2 :: x3 :: x4 :: x5 :: y :: r) (fr_i z :: st) μ := by
  intro p e s m args below meth c hF H locs lsA hI hL hl
  exact lv_istore hF.1 hF.2.1 hd hl.has hn rfl (fun lsB hB => kk p e s m args below meth c hF H locs lsB hI hL (hl.set1 (by simp) (fr_hp (i := 5) (y := x5) rfl hc) hB))
theorem fr_as6 {x0 x1 x2 x3 x4 x5 : Option Value} {y : Option Value} {z : Nat} (hd : decode mi.2.1 pc = .ok (.astore 6, 2)) (hc : fr_c1 x5 = true) (hn : 6 < mi.2.2.1) (kk : fr_A l κ mi k Q (pc + 2) (x0 :: x1 :: x2 :: x3 :: x4 :: x5 :: some (Value.ref z) :: r) st μ) : fr_A l κ mi k Q pc (x0 :: x1 :: x2 :: x3 :: x4 :: x5 :: y :: r) (Value.ref z :: st) μ := by
  intro p e s m args below meth c hF H locs lsA hI hL hl
  exact lv_astore hF.1 hF.2.1 hd hl.has hn rfl (fun lsB hB => kk p e s m args below meth c hF H locs lsB hI hL (hl.set1 (by simp) (fr_hp (i := 5) (y := x5) rfl hc) hB))
theorem fr_ls6 {x0 x1 x2 x3 x4 x5 : Option Value} {y y2 : Option Value} {z : Int} (hd : decode mi.2.1 pc = .ok (.lstore 6, 2)) (hc : fr_c1 x5 = true) (hn : 6 + 1 < mi.2.2.1) (kk : fr_A l κ mi k Q (pc + 2) (x0 :: x1 :: x2 :: x3 :: x4 :: x5 :: some (fr_j z) :: none :: r) st μ) : fr_A l κ mi k Q pc (x0 :: x1 :: x2 :: x3 :: x4 :: x5 :: y :: y2 :: r) (fr_j z :: st) μ := by
  intro p e s m args below meth c hF H locs lsA hI hL hl
  exact lv_lstore hF.1 hF.2.1 hd hl.has hn rfl (fun lsB hB => kk p e s m args below meth c hF H locs lsB hI hL (hl.set2 (by simp) (fr_hp (i := 5) (y := x5) rfl hc) hB))
theorem fr_ii6 {x0 x1 x2 x3 x4 x5 : Option Value} {z n : Int} (hd : decode mi.2.1 pc = .ok (.iinc 6 n, 3)) (hc : fr_c1 x5 = true) (hn : 6 < mi.2.2.1) (kk : fr_A l κ mi k Q (pc + 3) (x0 :: x1 :: x2 :: x3 :: x4 :: x5 :: some (fr_i (z + n)) :: r) st μ) : fr_A l κ mi k Q pc (x0 :: x1 :: x2 :: x3 :: x4 :: x5 :: some (fr_i z) :: r) st μ := by
  intro p e s m args below meth c hF H locs lsA hI hL hl
  have hm : ((6, fr_i z) : Nat × Value) ∈ fr_as mi.2.2.1 (x0 :: x1 :: x2 :: x3 :: x4 :: x5 :: some (fr_i z) :: r) := fr_as_mem.mpr ⟨hn, rfl⟩
  obtain ⟨j, hj⟩ := List.getElem?_of_mem hm
  exact lv_iinc hF.1 hF.2.1 hd hl.has hj (Int32.ofInt_add z n).symm hn rfl (fun lsB hB => kk p e s m args below meth c hF H locs lsB hI hL (hl.set1 (by simp) (fr_hp (i := 5) (y := x5) rfl hc) hB))
theorem fr_il7 {x0 x1 x2 x3 x4 x5 x6 : Option Value} {z : Int} (hd : decode mi.2.1 pc = .ok (.iload 7, 2)) (kk : fr_A l κ mi k Q (pc + 2) (x0 :: x1 :: x2 :: x3 :: x4 :: x5 :: x6 :: some (fr_i z) :: r) (fr_i z :: st) μ) : fr_A l κ mi k Q pc (x0 :: x1 :: x2 :: x3 :: x4 :: x5 :: x6 :: some (fr_i z) :: r) st μ := by
  intro p e s m args below meth c hF H locs lsA hI hL hl
  exact lv_iload hF.1 hF.2.1 hd (hl.2.2 7 _ rfl) (kk p e s m args below meth c hF H locs lsA hI hL hl)
theorem fr_al7 {x0 x1 x2 x3 x4 x5 x6 : Option Value} {z : Nat} (hd : decode mi.2.1 pc = .ok (.aload 7, 2)) (kk : fr_A l κ mi k Q (pc + 2) (x0 :: x1 :: x2 :: x3 :: x4 :: x5 :: x6 :: some (Value.ref z) :: r) (Value.ref z :: st) μ) : fr_A l κ mi k Q pc (x0 :: x1 :: x2 :: x3 :: x4 :: x5 :: x6 :: some (Value.ref z) :: r) st μ := by
  intro p e s m args below meth c hF H locs lsA hI hL hl
  exact lv_aload hF.1 hF.2.1 hd (hl.2.2 7 _ rfl) (kk p e s m args below meth c hF H locs lsA hI hL hl)
theorem fr_ll7 {x0 x1 x2 x3 x4 x5 x6 : Option Value} {z : Int} (hd : decode mi.2.1 pc = .ok (.lload 7, 2)) (kk : fr_A l κ mi k Q (pc + 2) (x0 :: x1 :: x2 :: x3 :: x4 :: x5 :: x6 :: some (fr_j z) :: r) (fr_j z :: st) μ) : fr_A l κ mi k Q pc (x0 :: x1 :: x2 :: x3 :: x4 :: x5 :: x6 :: some (fr_j z) :: r) st μ := by
  intro p e s m args below meth c hF H locs lsA hI hL hl
  exact lv_lload hF.1 hF.2.1 hd (hl.2.2 7 _ rfl) (kk p e s m args below meth c hF H locs lsA hI hL hl)
theorem fr_is7 {x0 x1 x2 x3 x4 x5 x6 : Option Value} {y : Option Value} {z : Int} (hd : decode mi.2.1 pc = .ok (.istore 7, 2)) (hc : fr_c1 x6 = true) (hn : 7 < mi.2.2.1) (kk : fr_A l κ mi k Q (pc + 2) (x0 :: x1 :: x2 :: x3 :: x4 :: x5 :: x6 :: some (fr_i z) :: r) st μ) : fr_A l κ mi k Q pc (x0 :: x1 :: x2 :: x3 :: x4 :: x5 :: x6 :: y :: r) (fr_i z :: st) μ := by
  intro p e s m args below meth c hF H locs lsA hI hL hl
  exact lv_istore hF.1 hF.2.1 hd hl.has hn rfl (fun lsB hB => kk p e s m args below meth c hF H locs lsB hI hL (hl.set1 (by simp) (fr_hp (i := 6) (y := x6) rfl hc) hB))
theorem fr_as7 {x0 x1 x2 x3 x4 x5 x6 : Option Value} {y : Option Value} {z : Nat} (hd : decode mi.2.1 pc = .ok (.astore 7, 2)) (hc : fr_c1 x6 = true) (hn : 7 < mi.2.2.1) (kk : fr_A l κ mi k Q (pc + 2) (x0 :: x1 :: x2 :: x3 :: x4 :: x5 :: x6 :: some (Value.ref z) :: r) st μ) : fr_A l κ mi k Q pc (x0 :: x1 :: x2 :: x3 :: x4 :: x5 :: x6 :: y :: r) (Value.ref z :: st) μ := by
  intro p e s m args below meth c hF H locs lsA hI hL hl
  exact lv_astore hF.1 hF.2.1 hd hl.has hn rfl (fun lsB hB => kk p e s m args below meth c hF H locs lsB hI hL (hl.set1 (by simp) (fr_hp (i := 6) (y := x6) rfl hc) hB))
theorem fr_ls7 {x0 x1 x2 x3 x4 x5 x6 : Option Value} {y y2 : Option Value} {z : Int} (hd : decode mi.2.1 pc = .ok (.lstore 7, 2)) (hc : fr_c1 x6 = true) (hn : 7 + 1 < mi.2.2.1) (kk : fr_A l κ mi k Q (pc + 2) (x0 :: x1 :: x2 :: x3 :: x4 :: x5 :: x6 :: some (fr_j z) :: none :: r) st μ) : fr_A l κ mi k Q pc (x0 :: x1 :: x2 :: x3 :: x4 :: x5 :: x6 :: y :: y2 :: r) (fr_j z :: st) μ := by
  intro p e s m args below meth c hF H locs lsA hI hL hl
  exact lv_lstore hF.1 hF.2.1 hd hl.has hn rfl (fun lsB hB => kk p e s m args below meth c hF H locs lsB hI hL (hl.set2 (by simp) (fr_hp (i := 6) (y := x6) rfl hc) hB))
theorem fr_ii7 {x0 x1 x2 x3 x4 x5 x6 : Option Value} {z n : Int} (hd : decode mi.2.1 pc = .ok (.iinc 7 n, 3)) (hc : fr_c1 x6 = true) (hn : 7 < mi.2.2.1) (kk : fr_A l κ mi k Q (pc + 3) (x0 :: x1 :: x2 :: x3 :: x4 :: x5 :: x6 :: some (fr_i (z + n)) :: r) st μ) : fr_A l κ mi k Q pc (x0 :: x1 :: x2 :: x3 :: x4 :: x5 :: x6 :: some (fr_i z) :: r) st μ := by
  intro p e s m args below meth c hF H locs lsA hI hL hl
  have hm : ((7, fr_i z) : Nat × Value) ∈ fr_as mi.2.2.1 (x0 :: x1 :: x2 :: x3 :: x4 :: x5 :: x6 :: some (fr_i z) :: r) := fr_as_mem.mpr ⟨hn, rfl⟩
  obtain ⟨j, hj⟩ := List.getElem?_of_mem hm
  exact lv_iinc hF.1 hF.2.1 hd hl.has hj (Int32.ofInt_add z n).symm hn rfl (fun lsB hB => kk p e s m args below meth c hF H locs lsB hI hL (hl.set1 (by simp) (fr_hp (i := 6) (y := x6) rfl hc) hB))
theorem fr_il8 {x0 x1 x2 x3 x4 x5 x6 x7 : Option Value} {z : Int} (hd : decode mi.2.1 pc = .ok (.iload 8, 2)) (kk : fr_A l κ mi k Q (pc + 2) (x0 :: x1 :: x2 :: x3 :: x4 :: x5 :: x6 :: x7 :: some (fr_i z) :: r) (fr_i z :: st) μ) : fr_A l κ mi k Q pc (x0 :: x1 :: x2 :: x3 :: x4 :: x5 :: x6 :: x7 :: some (fr_i z) :: r) st μ := by
  intro p e s m args below meth c hF H locs lsA hI hL hl
  exact lv_iload hF.1 hF.2.1 hd (hl.2.2 8 _ rfl) (kk p e s m args below meth c hF H locs lsA hI hL hl)
theorem fr_al8 {x0 x1 x2 x3 x4 x5 x6 x7 : Option Value} {z : Nat} (hd : decode mi.2.1 pc = .ok (.aload 8, 2)) (kk : fr_A l κ mi k Q (pc + 2) (x0 :: x1 :: x2 :: x3 :: x4 :: x5 :: x6 :: x7 :: some (Value.ref z) :: r) (Value.ref z :: st) μ) : fr_A l κ mi k Q pc (x0 :: x1 :: x2 :: x3 :: x4 :: x5 :: x6 :: x7 :: some (Value.ref z) :: r) st μ := by
  intro p e s m args below meth c hF H locs lsA hI hL hl
  exact lv_aload hF.1 hF.2.1 hd (hl.2.2 8 _ rfl) (kk p e s m args below meth c hF H locs lsA hI hL hl)
theorem fr_ll8 {x0 x1 x2 x3 x4 x5 x6 x7 : Option Value} {z : Int} (hd : decode mi.2.1 pc = .ok (.lload 8, 2)) (kk : fr_A l κ mi k Q (pc + 2) (x0 :: x1 :: x2 :: x3 :: x4 :: x5 :: x6 :: x7 :: some (fr_j z) :: r) (fr_j z :: st) μ) : fr_A l κ mi k Q pc (x0 :: x1 :: x2 :: x3 :: x4 :: x5 :: x6 :: x7 :: some (fr_j z) :: r) st μ := by
  intro p e s m args below meth c hF H locs lsA hI hL hl
  exact lv_lload hF.1 hF.2.1 hd (hl.2.2 8 _ rfl) (kk p e s m args below meth c hF H locs lsA hI hL hl)
theorem fr_is8 {x0 x1 x2 x3 x4 x5 x6 x7 : Option Value} {y : Option Value} {z : Int} (hd : decode mi.2.1 pc = .ok (.istore 8, 2)) (hc : fr_c1 x7 = true) (hn : 8 < mi.2.2.1) (kk : fr_A l κ mi k Q (pc + 2) (x0 :: x1 :: x2 :: x3 :: x4 :: x5 :: x6 :: x7 :: some (fr_i z) :: r) st μ) : fr_A l κ mi k Q pc (x0 :: x1 :: x2 :: x3 :: x4 :: x5 :: x6 :: x7 :: y :: r) (fr_i z :: st) μ := by
  intro p e s m args below meth c hF H locs lsA hI hL hl
  exact lv_istore hF.1 hF.2.1 hd hl.has hn rfl (fun lsB hB => kk p e s m args below meth c hF H locs lsB hI hL (hl.set1 (by simp) (fr_hp (i := 7) (y := x7) rfl hc) hB))
theorem fr_as8 {x0 x1 x2 x3 x4 x5 x6 x7 : Option Value} {y : Option Value} {z : Nat} (hd : decode mi.2.1 pc = .ok (.astore 8, 2)) (hc : fr_c1 x7 = true) (hn : 8 < mi.2.2.1) (kk : fr_A l κ mi k Q (pc + 2) (x0 :: x1 :: x2 :: x3 :: x4 :: x5 :: x6 :: x7 :: some (Value.ref z) :: r) st μ) : fr_A l κ mi k Q pc (x0 :: x1 :: x2 :: x3 :: x4 :: x5 :: x6 :: x7 :: y :: r) (Value.ref z :: st) μ := by
  intro p e s m args below meth c hF H locs lsA hI hL hl
  exact lv_astore hF.1 hF.2.1 hd hl.has hn rfl (fun lsB hB => kk p e s m args below meth c hF H locs lsB hI hL (hl.set1 (by simp) (fr_hp (i := 7) (y := x7) rfl hc) hB))
theorem fr_ls8 {x0 x1 x2 x3 x4 x5 x6 x7 : Option Value} {y y2 : Option Value} {z : Int} (hd : decode mi.2.1 pc = .ok (.lstore 8, 2)) (hc : fr_c1 x7 = true) (hn : 8 + 1 < mi.2.2.1) (kk : fr_A l κ mi k Q (pc + 2) (x0 :: x1 :: x2 :: x3 :: x4 :: x5 :: x6 :: x7 :: some (fr_j z) :: none :: r) st μ) : fr_A l κ mi k Q pc (x0 :: x1 :: x2 :: x3 :: x4 :: x5 :: x6 :: x7 :: y :: y2 :: r) (fr_j z :: st) μ := by
  intro p e s m args below meth c hF H locs lsA hI hL hl
  exact lv_lstore hF.1 hF.2.1 hd hl.has hn rfl (fun lsB hB => kk p e s m args below meth c hF H locs lsB hI hL (hl.set2 (by simp) (fr_hp (i := 7) (y := x7) rfl hc) hB))
theorem fr_ii8 {x0 x1 x2 x3 x4 x5 x6 x7 : Option Value} {z n : Int} (hd : decode mi.2.1 pc = .ok (.iinc 8 n, 3)) (hc : fr_c1 x7 = true) (hn : 8 < mi.2.2.1) (kk : fr_A l κ mi k Q (pc + 3) (x0 :: x1 :: x2 :: x3 :: x4 :: x5 :: x6 :: x7 :: some (fr_i (z + n)) :: r) st μ) : fr_A l κ mi k Q pc (x0 :: x1 :: x2 :: x3 :: x4 :: x5 :: x6 :: x7 :: some (fr_i z) :: r) st μ := by
  intro p e s m args below meth c hF H locs lsA hI hL hl
  have hm : ((8, fr_i z) : Nat × Value) ∈ fr_as mi.2.2.1 (x0 :: x1 :: x2 :: x3 :: x4 :: x5 :: x6 :: x7 :: some (fr_i z) :: r) := fr_as_mem.mpr ⟨hn, rfl⟩
  obtain ⟨j, hj⟩ := List.getElem?_of_mem hm
  exact lv_iinc hF.1 hF.2.1 hd hl.has hj (Int32.ofInt_add z n).symm hn rfl (fun lsB hB => kk p e s m args below meth c hF H locs lsB hI hL (hl.set1 (by simp) (fr_hp (i := 7) (y := x7) rfl hc) hB))
theorem fr_il9 {x0 x1 x2 x3 x4 x5 x6 x7 x8 : Option Value} {z : Int} (hd : decode mi.2.1 pc = .ok (.iload 9, 2)) (kk : fr_A l κ mi k Q (pc + 2) (x0 :: x1 :: x2 :: x3 :: x4 :: x5 :: x6 :: x7 :: x8 :: some (fr_i z) :: r) (fr_i z :: st) μ) : fr_A l κ mi k Q pc (x0 :: x1 :: x2 :: x3 :: x4 :: x5 :: x6 :: x7 :: x8 :: some (fr_i z) :: r) st μ := by
  intro p e s m args below meth c hF H locs lsA hI hL hl
  exact lv_iload hF.1 hF.2.1 hd (hl.2.2 9 _ rfl) (kk p e s m args below meth c hF H locs lsA hI hL hl)
theorem fr_al9 {x0 x1 x2 x3 x4 x5 x6 x7 x8 : Option Value} {z : Nat} (hd : decode mi.2.1 pc = .ok (.aload 9, 2)) (kk : fr_A l κ mi k Q (pc + 2) (x0 :: x1 :: x2 :: x3 :: x4 :: x5 :: x6 :: x7 :: x8 :: some (Value.ref z) :: r) (Value.ref z :: st) μ) : fr_A l κ mi k Q pc (x0 :: x1 :: x2 :: x3 :: x4 :: x5 :: x6 :: x7 :: x8 :: some (Value.ref z) :: r) st μ := by
  intro p e s m args below meth c hF H locs lsA hI hL hl
  exact lv_aload hF.1 hF.2.1 hd (hl.2.2 9 _ rfl) (kk p e s m args below meth c hF H locs lsA hI hL hl)
theorem fr_ll9 {x0 x1 x2 x3 x4 x5 x6 x7 x8 : Option Value} {z : Int} (hd : decode mi.2.1 pc = .ok (.lload 9, 2)) (kk : fr_A l κ mi k Q (pc + 2) (x0 :: x1 :: x2 :: x3 :: x4 :: x5 :: x6 :: x7 :: x8 :: some (fr_j z) :: r) (fr_j z :: st) μ) : fr_A l κ mi k Q pc (x0 :: x1 :: x2 :: x3 :: x4 :: x5 :: x6 :: x7 :: x8 :: some (fr_j z) :: r) st μ := by
  intro p e s m args below meth c hF H locs lsA hI hL hl
  exact lv_lload hF.1 hF.2.1 hd (hl.2.2 9 _ rfl) (kk p e s m args below meth c hF H locs lsA hI hL hl)
theorem fr_is9 {x0 x1 x2 x3 x4 x5 x6 x7 x8 : Option Value} {y : Option Value} {z : Int} (hd : decode mi.2.1 pc = .ok (.istore 9, 2)) (hc : fr_c1 x8 = true) (hn : 9 < mi.2.2.1) (kk : fr_A l κ mi k Q (pc + 2) (x0 :: x1 :: x2 :: x3 :: x4 :: x5 :: x6 :: x7 :: x8 :: some (fr_i z) :: r) st μ) : fr_A l κ mi k Q pc (x0 :: x1 :: x2 :: x3 :: x4 :: x5 :: x6 :: x7 :: x8 :: y :: r) (fr_i z :: st) μ := by
  intro p e s m args below meth c hF H locs lsA hI hL hl
  exact lv_istore hF.1 hF.2.1 hd hl.has hn rfl (fun lsB hB => kk p e s m args below meth c hF H locs lsB hI hL (hl.set1 (by simp) (fr_hp (i := 8) (y := x8) rfl hc) hB))
theorem fr_as9 {x0 x1 x2 x3 x4 x5 x6 x7 x8 : Option Value} {y : Option Value} {z : Nat} (hd : decode mi.2.1 pc = .ok (.astore 9, 2)) (hc : fr_c1 x8 = true) (hn : 9 < mi.2.2.1) (kk : fr_A l κ mi k Q (pc + 2) (x0 :: x1 :: x2 :: x3 :: x4 :: x5 :: x6 :: x7 :: x8 :: some (Value.ref z) :: r) st μ) : fr_A l κ mi k Q pc (x0 :: x1 :: x2 :: x3 :: x4 :: x5 :: x6 :: x7 :: x8 :: y :: r) (Value.ref z :: st) μ := by
  intro p e s m args below meth c hF H locs lsA hI hL hl
  exact lv_astore hF.1 hF.2.1 hd hl.has hn rfl (fun lsB hB => kk p e s m args below meth c hF H locs lsB hI hL (hl.set1 (by simp) (fr_hp (i := 8) (y := x8) rfl hc) hB))
theorem fr_ls9 {x0 x1 x2 x3 x4 x5 x6 x7 x8 : Option Value} {y y2 : Option Value} {z : Int} (hd : decode mi.2.1 pc = .ok (.lstore 9, 2)) (hc : fr_c1 x8 = true) (hn : 9 + 1 < mi.2.2.1) (kk : fr_A l κ mi k Q (pc + 2) (x0 :: x1 :: x2 :: x3 :: x4 :: x5 :: x6 :: x7 :: x8 :: some (fr_j z) :: none :: r) st μ) : fr_A l κ mi k Q pc (x0 :: x1 :: x2 :: x3 :: x4 :: x5 :: x6 :: x7 :: x8 :: y :: y2 :: r) (fr_j z :: st) μ := by
  intro p e s m args below meth c hF H locs lsA hI hL hl
  exact lv_lstore hF.1 hF.2.1 hd hl.has hn rfl (fun lsB hB => kk p e s m args below meth c hF H locs lsB hI hL (hl.set2 (by simp) (fr_hp (i := 8) (y := x8) rfl hc) hB))
theorem fr_ii9 {x0 x1 x2 x3 x4 x5 x6 x7 x8 : Option Value} {z n : Int} (hd : decode mi.2.1 pc = .ok (.iinc 9 n, 3)) (hc : fr_c1 x8 = true) (hn : 9 < mi.2.2.1) (kk : fr_A l κ mi k Q (pc + 3) (x0 :: x1 :: x2 :: x3 :: x4 :: x5 :: x6 :: x7 :: x8 :: some (fr_i (z + n)) :: r) st μ) : fr_A l κ mi k Q pc (x0 :: x1 :: x2 :: x3 :: x4 :: x5 :: x6 :: x7 :: x8 :: some (fr_i z) :: r) st μ := by
  intro p e s m args below meth c hF H locs lsA hI hL hl
  have hm : ((9, fr_i z) : Nat × Value) ∈ fr_as mi.2.2.1 (x0 :: x1 :: x2 :: x3 :: x4 :: x5 :: x6 :: x7 :: x8 :: some (fr_i z) :: r) := fr_as_mem.mpr ⟨hn, rfl⟩
  obtain ⟨j, hj⟩ := List.getElem?_of_mem hm
  exact lv_iinc hF.1 hF.2.1 hd hl.has hj (Int32.ofInt_add z n).symm hn rfl (fun lsB hB => kk p e s m args below meth c hF H locs lsB hI hL (hl.set1 (by simp) (fr_hp (i := 8) (y := x8) rfl hc) hB))
theorem fr_il10 {x0 x1 x2 x3 x4 x5 x6 x7 x8 x9 : Option Value} {z : Int} (hd : decode mi.2.1 pc = .ok (.iload 10, 2)) (kk : fr_A l κ mi k Q (pc + 2) (x0 :: x1 :: x2 :: x3 :: x4 :: x5 :: x6 :: x7 :: x8 :: x9 :: some (fr_i z) :: r) (fr_i z :: st) μ) : fr_A l κ mi k Q pc (x0 :: x1 :: x2 :: x3 :: x4 :: x5 :: x6 :: x7 :: x8 :: x9 :: some (fr_i z) :: r) st μ := by
  intro p e s m args below meth c hF H locs lsA hI hL hl
  exact lv_iload hF.1 hF.2.1 hd (hl.2.2 10 _ rfl) (kk p e s m args below meth c hF H locs lsA hI hL hl)
theorem fr_al10 {x0 x1 x2 x3 x4 x5 x6 x7 x8 x9 : Option Value} {z : Nat} (hd : decode mi.2.1 pc = .ok (.aload 10, 2)) (kk : fr_A l κ mi k Q (pc + 2) (x0 :: x1 :: x2 :: x3 :: x4 :: x5 :: x6 :: x7 :: x8 :: x9 :: some (Value.ref z) :: r) (Value.ref z :: st) μ) : fr_A l κ mi k Q pc (x0 :: x1 :: x2 :: x3 :: x4 :: x5 :: x6 :: x7 :: x8 :: x9 :: some (Value.ref z) :: r) st μ := by
  intro p e s m args below meth c hF H locs lsA hI hL hl
  exact lv_aload hF.1 hF.2.1 hd (hl.2.2 10 _ rfl) (kk p e s m args below meth c hF H locs lsA hI hL hl)
theorem fr_ll10 {x0 x1 x2 x3 x4 x5 x6 x7 x8 x9 : Option Value} {z : Int} (hd : decode mi.2.1 pc = .ok (.lload 10, 2)) (kk : fr_A l κ mi k Q (pc + 2) (x0 :: x1 :: x2 :: x3 :: x4 :: x5 :: x6 :: x7 :: x8 :: x9 :: some (fr_j z) :: r) (fr_j z :: st) μ) : fr_A l κ mi k Q pc (x0 :: x1 :: x2 :: x3 :: x4 :: x5 :: x6 :: x7 :: x8 :: x9 :: some (fr_j z) :: r) st μ := by
  intro p e s m args below meth c hF H locs lsA hI hL hl
  exact lv_lload hF.1 hF.2.1 hd (hl.2.2 10 _ rfl) (kk p e s m args below meth c hF H locs lsA hI hL hl)
theorem fr_is10 {x0 x1 x2 x3 x4 x5 x6 x7 x8 x9 : Option Value} {y : Option Value} {z : Int} (hd : decode mi.2.1 pc = .ok (.istore 10, 2)) (hc : fr_c1 x9 = true) (hn : 10 < mi.2.2.1) (kk : fr_A l κ mi k Q (pc + 2) (x0 :: x1 :: x2 :: x3 :: x4 :: x5 :: x6 :: x7 :: x8 :: x9 :: some (fr_i z) :: r) st μ) : fr_A l κ mi k Q pc (x0 :: x1 :: x2 :: x3 :: x4 :: x5 :: x6 :: x7 :: x8 :: x9 :: y :: r) (fr_i z :: st) μ := by
  intro p e s m args below meth c hF H locs lsA hI hL hl
  exact lv_istore hF.1 hF.2.1 hd hl.has hn rfl (fun lsB hB => kk p e s m args below meth c hF H locs lsB hI hL (hl.set1 (by simp) (fr_hp (i := 9) (y := x9) rfl hc) hB))
theorem fr_as10 {x0 x1 x2 x3 x4 x5 x6 x7 x8 x9 : Option Value} {y : Option Value} {z : Nat} (hd : decode mi.2.1 pc = .ok (.astore 10, 2)) (hc : fr_c1 x9 = true) (hn : 10 < mi.2.2.1) (kk : fr_A l κ mi k Q (pc + 2) (x0 :: x1 :: x2 :: x3 :: x4 :: x5 :: x6 :: x7 :: x8 :: x9 :: some (Value.ref z) :: r) st μ) : fr_A l κ mi k Q pc (x0 :: x1 :: x2 :: x3 :: x4 :: x5 :: x6 :: x7 :: x8 :: x9 :: y :: r) (Value.ref z :: st) μ := by
  intro p e s m args below meth c hF H locs lsA hI hL hl
  exact lv_astore hF.1 hF.2.1 hd hl.has hn rfl (fun lsB hB => kk p e s m args below meth c hF H locs lsB hI hL (hl.set1 (by simp) (fr_hp (i := 9) (y := x9) rfl hc) hB))
theorem fr_ls10 {x0 x1 x2 x3 x4 x5 x6 x7 x8 x9 : Option Value} {y y2 : Option Value} {z : Int} (hd : decode mi.2.1 pc = .ok (.lstore 10, 2)) (hc : fr_c1 x9 = true) (hn : 10 + 1 < mi.2.2.1) (kk : fr_A l κ mi k Q (pc + 2) (x0 :: x1 :: x2 :: x3 :: x4 :: x5 :: x6 :: x7 :: x8 :: x9 :: some (fr_j z) :: none :: r) st μ) : fr_A l κ mi k Q pc (x0 :: x1 :: x2 :: x3 :: x4 :: x5 :: x6 :: x7 :: x8 :: x9 :: y :: y2 :: r) (fr_j z :: st) μ := by
  intro p e s m args below meth c hF H locs lsA hI hL hl
  exact lv_lstore hF.1 hF.2.1 hd hl.has hn rfl (fun lsB hB => kk p e s m args below meth c hF H locs lsB hI hL (hl.set2 (by simp) (fr_hp (i := 9) (y := x9) rfl hc) hB))
theorem fr_ii10 {x0 x1 x2 x3 x4 x5 x6 x7 x8 x9 : Option Value} {z n : Int} (hd : decode mi.2.1 pc = .ok (.iinc 10 n, 3)) (hc : fr_c1 x9 = true) (hn : 10 < mi.2.2.1) (kk : fr_A l κ mi k Q (pc + 3) (x0 :: x1 :: x2 :: x3 :: x4 :: x5 :: x6 :: x7 :: x8 :: x9 :: some (fr_i (z + n)) :: r) st μ) : fr_A l κ mi k Q pc (x0 :: x1 :: x2 :: x3 :: x4 :: x5 :: x6 :: x7 :: x8 :: x9 :: some (fr_i z) :: r) st μ := by
  intro p e s m args below meth c hF H locs lsA hI hL hl
  have hm : ((10, fr_i z) : Nat × Value) ∈ fr_as mi.2.2.1 (x0 :: x1 :: x2 :: x3 :: x4 :: x5 :: x6 :: x7 :: x8 :: x9 :: some (fr_i z) :: r) := fr_as_mem.mpr ⟨hn, rfl⟩
  obtain ⟨j, hj⟩ := List.getElem?_of_mem hm
  exact lv_iinc hF.1 hF.2.1 hd hl.has hj (Int32.ofInt_add z n).symm hn rfl (fun lsB hB => kk p e s m args below meth c hF H locs lsB hI hL (hl.set1 (by simp) (fr_hp (i := 9) (y := x9) rfl hc) hB))
theorem fr_il11 {x0 x1 x2 x3 x4 x5 x6 x7 x8 x9 x10 : Option Value} {z : Int} (hd : decode mi.2.1 pc = .ok (.iload 11, 2)) (kk : fr_A l κ mi k Q (pc + 2) (x0 :: x1 :: x2 :: x3 :: x4 :: x5 :: x6 :: x7 :: x8 :: x9 :: x10 :: some (fr_i z) :: r) (fr_i z :: st) μ) : fr_A l κ mi k Q pc (x0 :: x1 :: x2 :: x3 :: x4 :: x5 :: x6 :: x7 :: x8 :: x9 :: x10 :: some (fr_i z) :: r) st μ := by
  intro p e s m args below meth c hF H locs lsA hI hL hl
  exact lv_iload hF.1 hF.2.1 hd (hl.2.2 11 _ rfl) (kk p e s m args below meth c hF H locs lsA hI hL hl)
theorem fr_al11 {x0 x1 x2 x3 x4 x5 x6 x7 x8 x9 x10 : Option Value} {z : Nat} (hd : decode mi.2.1 pc = .ok (.aload 11, 2)) (kk : fr_A l κ mi k Q (pc + 2) (x0 :: x1 :: x2 :: x3 :: x4 :: x5 :: x6 :: x7 :: x8 :: x9 :: x10 :: some (Value.ref z) :: r) (Value.ref z :: st) μ) : fr_A l κ mi k Q pc (x0 :: x1 :: x2 :: x3 :: x4 :: x5 :: x6 :: x7 :: x8 :: x9 :: x10 :: some (Value.ref z) :: r) st μ := by
  intro p e s m args below meth c hF H locs lsA hI hL hl
  exact lv_aload hF.1 hF.2.1 hd (hl.2.2 11 _ rfl) (kk p e s m args below meth c hF H locs lsA hI hL hl)
theorem fr_ll11 {x0 x1 x2 x3 x4 x5 x6 x7 x8 x9 x10 : Option Value} {z : Int} (hd : decode mi.2.1 pc = .ok (.lload 11, 2)) (kk : fr_A l κ mi k Q (pc + 2) (x0 :: x1 :: x2 :: x3 :: x4 :: x5 :: x6 :: x7 :: x8 :: x9 :: x10 :: some (fr_j z) :: r) (fr_j z :: st) μ) : fr_A l κ mi k Q pc (x0 :: x1 :: x2 :: x3 :: x4 :: x5 :: x6 :: x7 :: x8 :: x9 :: x10 :: some (fr_j z) :: r) st μ := by
  intro p e s m args below meth c hF H locs lsA hI hL hl
  exact lv_lload hF.1 hF.2.1 hd (hl.2.2 11 _ rfl) (kk p e s m args below meth c hF H locs lsA hI hL hl)
theorem fr_is11 {x0 x1 x2 x3 x4 x5 x6 x7 x8 x9 x10 : Option Value} {y : Option Value} {z : Int} (hd : decode mi.2.1 pc = .ok (.istore 11, 2)) (hc : fr_c1 x10 = true) (hn : 11 < mi.2.2.1) (kk : fr_A l κ mi k Q (pc + 2) (x0 :: x1 :: x2 :: x3 :: x4 :: x5 :: x6 :: x7 :: x8 :: x9 :: x10 :: some (fr_i z) :: r) st μ) : fr_A l κ mi k Q pc (x0 :: x1 :: x2 :: x3 :: x4 :: x5 :: x6 :: x7 :: x8 :: x9 :: x10 :: y :: r) (fr_i z :: st) μ := by
  intro p e s m args below meth c hF H locs lsA hI hL hl
  exact lv_istore hF.1 hF.2.1 hd hl.has hn rfl (fun lsB hB => kk p e s m args below meth c hF H locs lsB hI hL (hl.set1 (by simp) (fr_hp (i := 10) (y := x10) rfl hc) hB))
theorem fr_as11 {x0 x1 x2 x3 x4 x5 x6 x7 x8 x9 x10 : Option Value} {y : Option Value} {z : Nat} (hd : decode mi.2.1 pc = .ok (.astore 11, 2)) (hc : fr_c1 x10 = true) (hn : 11 < mi.2.2.1) (kk : fr_A l κ mi k Q (pc + 2) (x0 :: x1 :: x2 :: x3 :: x4 :: x5 :: x6 :: x7 :: x8 :: x9 :: x10 :: some (Value.ref z) :: r) st μ) : fr_A l κ mi k Q pc (x0 :: x1 :: x2 :: x3 :: x4 :: x5 :: x6 :: x7 :: x8 :: x9 :: x10 :: y :: r) (Value.ref z :: st) μ := by
  intro p e s m args below meth c hF H locs lsA hI hL hl
  exact lv_astore hF.1 hF.2.1 hd hl.has hn rfl (fun lsB hB => kk p e s m args below meth c hF H locs lsB hI hL (hl.set1 (by simp) (fr_hp (i := 10) (y := x10) rfl hc) hB))
theorem fr_ls11 {x0 x1 x2 x3 x4 x5 x6 x7 x8 x9 x10 : Option Value} {y y2 : Option Value} {z : Int} (hd : decode mi.2.1 pc = .ok (.lstore 11, 2)) (hc : fr_c1 x10 = true) (hn : 11 + 1 < mi.2.2.1) (kk : fr_A l κ mi k Q (pc + 2) (x0 :: x1 :: x2 :: x3 :: x4 :: x5 :: x6 :: x7 :: x8 :: x9 :: x10 :: some (fr_j z) :: none :: r) st μ) : fr_A l κ mi k Q pc (x0 :: x1 :: x2 :: x3 :: x4 :: x5 :: x6 :: x7 :: x8 :: x9 :: x10 :: y :: y2 :: r) (fr_j z :: st) μ := by
  intro p e s m args below meth c hF H locs lsA hI hL hl
  exact lv_lstore hF.1 hF.2.1 hd hl.has hn rfl (fun lsB hB => kk p e s m args below meth c hF H locs lsB hI hL (hl.set2 (by simp) (fr_hp (i := 10) (y := x10) rfl hc) hB))
theorem fr_ii11 {x0 x1 x2 x3 x4 x5 x6 x7 x8 x9 x10 : Option Value} {z n : Int} (hd : decode mi.2.1 pc = .ok (.iinc 11 n, 3)) (hc : fr_c1 x10 = true) (hn : 11 < mi.2.2.1) (kk : fr_A l κ mi k Q (pc + 3) (x0 :: x1 :: x2 :: x3 :: x4 :: x5 :: x6 :: x7 :: x8 :: x9 :: x10 :: some (fr_i (z + n)) :: r) st μ) : fr_A l κ mi k Q pc (x0 :: x1 :: x2 :: x3 :: x4 :: x5 :: x6 :: x7 :: x8 :: x9 :: x10 :: some (fr_i z) :: r) st μ := by
  intro p e s m args below meth c hF H locs lsA hI hL hl
  have hm : ((11, fr_i z) : Nat × Value) ∈ fr_as mi.2.2.1 (x0 :: x1 :: x2 :: x3 :: x4 :: x5 :: x6 :: x7 :: x8 :: x9 :: x10 :: some (fr_i z) :: r) := fr_as_mem.mpr ⟨hn, rfl⟩
  obtain ⟨j, hj⟩ := List.getElem?_of_mem hm
  exact lv_iinc hF.1 hF.2.1 hd hl.has hj (Int32.ofInt_add z n).symm hn rfl (fun lsB hB => kk p e s m args below meth c hF H locs lsB hI hL (hl.set1 (by simp) (fr_hp (i := 10) (y := x10) rfl hc) hB))
theorem fr_il12 {x0 x1 x2 x3 x4 x5 x6 x7 x8 x9 x10 x11 : Option Value} {z : Int} (hd : decode mi.2.1 pc = .ok (.iload 12, 2)) (kk : fr_A l κ mi k Q (pc + 2) (x0 :: x1 :: x2 :: x3 :: x4 :: x5 :: x6 :: x7 :: x8 :: x9 :: x10 :: x11 :: some (fr_i z) :: r) (fr_i z :: st) μ) : fr_A l κ mi k Q pc (x0 :: x1 :: x2 :: x3 :: x4 :: x5 :: x6 :: x7 :: x8 :: x9 :: x10 :: x11 :: some (fr_i z) :: r) st μ := by
  intro p e s m args below meth c hF H locs lsA hI hL hl
  exact lv_iload hF.1 hF.2.1 hd (hl.2.2 12 _ rfl) (kk p e s m args below meth c hF H locs lsA hI hL hl)
theorem fr_al12 {x0 x1 x2 x3 x4 x5 x6 x7 x8 x9 x10 x11 : Option Value} {z : Nat} (hd : decode mi.2.1 pc = .ok (.aload 12, 2)) (kk : fr_A l κ mi k Q (pc + 2) (x0 :: x1 :: x2 :: x3 :: x4 :: x5 :: x6 :: x7 :: x8 :: x9 :: x10 :: x11 :: some (Value.ref z) :: r) (Value.ref z :: st) μ) : fr_A l κ mi k Q pc (x0 :: x1 :: x2 :: x3 :: x4 :: x5 :: x6 :: x7 :: x8 :: x9 :: x10 :: x11 :: some (Value.ref z) :: r) st μ := by
  intro p e s m args below meth c hF H locs lsA hI hL hl
  exact lv_aload hF.1 hF.2.1 hd (hl.2.2 12 _ rfl) (kk p e s m args below meth c hF H locs lsA hI hL hl)
theorem fr_ll12 {x0 x1 x2 x3 x4 x5 x6 x7 x8 x9 x10 x11 : Option Value} {z : Int} (hd : decode mi.2.1 pc = .ok (.lload 12, 2)) (kk : fr_A l κ mi k Q (pc + 2) (x0 :: x1 :: x2 :: x3 :: x4 :: x5 :: x6 :: x7 :: x8 :: x9 :: x10 :: x11 :: some (fr_j z) :: r) (fr_j z :: st) μ) : fr_A l κ mi k Q pc (x0 :: x1 :: x2 :: x3 :: x4 :: x5 :: x6 :: x7 :: x8 :: x9 :: x10 :: x11 :: some (fr_j z) :: r) st μ := by
  intro p e s m args below meth c hF H locs lsA hI hL hl
  exact lv_lload hF.1 hF.2.1 hd (hl.2.2 12 _ rfl) (kk p e s m args below meth c hF H locs lsA hI hL hl)
theorem fr_is12 {x0 x1 x2 x3 x4 x5 x6 x7 x8 x9 x10 x11 : Option Value} {y : Option Value} {z : Int} (hd : decode mi.2.1 pc = .ok (.istore 12, 2)) (hc : fr_c1 x11 = true) (hn : 12 < mi.2.2.1) (kk : fr_A l κ mi k Q (pc + 2) (x0 :: x1 :: x2 :: x3 :: x4 :: x5 :: x6 :: x7 :: x8 :: x9 :: x10 :: x11 :: some (fr_i z) :: r) st μ) : fr_A l κ mi k Q pc (x0 :: x1 :: x2 :: x3 :: x4 :: x5 :: x6 :: x7 :: x8 :: x9 :: x10 :: x11 :: y :: r) (fr_i z :: st) μ := by
  intro p e s m args below meth c hF H locs lsA hI hL hl
  exact lv_istore hF.1 hF.2.1 hd hl.has hn rfl (fun lsB hB => kk p e s m args below meth c hF H locs lsB hI hL (hl.set1 (by simp) (fr_hp (i := 11) (y := x11) rfl hc) hB))
theorem fr_as12 {x0 x1 x2 x3 x4 x5 x6 x7 x8 x9 x10 x11 : Option Value} {y : Option Value} {z : Nat} (hd : decode mi.2.1 pc = .ok (.astore 12, 2)) (hc : fr_c1 x11 = true) (hn : 12 < mi.2.2.1) (kk : fr_A l κ mi k Q (pc + 2) (x0 :: x1 :: x2 :: x3 :: x4 :: x5 :: x6 :: x7 :: x8 :: x9 :: x10 :: x11 :: some (Value.ref z) :: r) st μ) : fr_A l κ mi k Q pc (x0 :: x1 :: x2 :: x3 :: x4 :: x5 :: x6 :: x7 :: x8 :: x9 :: x10 :: x11 :: y :: r) (Value.ref z :: st) μ := by
  intro p e s m args below meth c hF H locs lsA hI hL hl
  exact lv_astore hF.1 hF.2.1 hd hl.has hn rfl (fun lsB hB => kk p e s m args below meth c hF H locs lsB hI hL (hl.set1 (by simp) (fr_hp (i := 11) (y := x11) rfl hc) hB))
theorem fr_ls12 {x0 x1 x2 x3 x4 x5 x6 x7 x8 x9 x10 x11 : Option Value} {y y2 : Option Value} {z : Int} (hd : decode mi.2.1 pc = .ok (.lstore 12, 2)) (hc : fr_c1 x11 = true) (hn : 12 + 1 < mi.2.2.1) (kk : fr_A l κ mi k Q (pc + 2) (x0 :: x1 :: x2 :: x3 :: x4 :: x5 :: x6 :: x7 :: x8 :: x9 :: x10 :: x11 :: some (fr_j z) :: none :: r) st μ) : fr_A l κ mi k Q pc (x0 :: x1 :: x2 :: x3 :: x4 :: x5 :: x6 :: x7 :: x8 :: x9 :: x10 :: x11 :: y :: y2 :: r) (fr_j z :: st) μ := by
  intro p e s m args below meth c hF H locs lsA hI hL hl
  exact lv_lstore hF.1 hF.2.1 hd hl.has hn rfl (fun lsB hB => kk p e s m args below meth c hF H locs lsB hI hL (hl.set2 (by simp) (fr_hp (i := 11) (y := x11) rfl hc) hB))
theorem fr_ii12 {x0 x1 x2 x3 x4 x5 x6 x7 x8 x9 x10 x11 : Option Value} {z n : Int} (hd : decode mi.2.1 pc = .ok (.iinc 12 n, 3)) (hc : fr_c1 x11 = true) (hn : 12 < mi.2.2.1) (kk : fr_A l κ mi k Q (pc + 3) (x0 :: x1 :: x2 :: x3 :: x4 :: x5 :: x6 :: x7 :: x8 :: x9 :: x10 :: x11 :: some (fr_i (z + n)) :: r) st μ) : fr_A l κ mi k Q pc (x0 :: x1 :: x2 :: x3 :: x4 :: x5 :: x6 :: x7 :: x8 :: x9 :: x10 :: x11 :: some (fr_i z) :: r) st μ := by
  intro p e s m args below meth c hF H locs lsA hI hL hl
  have hm : ((12, fr_i z) : Nat × Value) ∈ fr_as mi.2.2.1 (x0 :: x1 :: x2 :: x3 :: x4 :: x5 :: x6 :: x7 :: x8 :: x9 :: x10 :: x11 :: some (fr_i z) :: r) := fr_as_mem.mpr ⟨hn, rfl⟩
  obtain ⟨j, hj⟩ := List.getElem?_of_mem hm
  exact lv_iinc hF.1 hF.2.1 hd hl.has hj (Int32.ofInt_add z n).symm hn rfl (fun lsB hB => kk p e s m args below meth c hF H locs lsB hI hL (hl.set1 (by simp) (fr_hp (i := 11) (y := x11) rfl hc) hB))
theorem fr_il13 {x0 x1 x2 x3 x4 x5 x6 x7 x8 x9 x10 x11 x12 : Option Value} {z : Int} (hd : decode mi.2.1 pc = .ok (.iload 13, 2)) (kk : fr_A l κ mi k Q (pc + 2) (x0 :: x1 :: x2 :: x3 :: x4 :: x5 :: x6 :: x7 :: x8 :: x9 :: x10 :: x11 :: x12 :: some (fr_i z) :: r) (fr_i z :: st) μ) : fr_A l κ mi k Q pc (x0 :: x1 :: x2 :: x3 :: x4 :: x5 :: x6 :: x7 :: x8 :: x9 :: x10 :: x11 :: x12 :: some (fr_i z) :: r) st μ := by
  intro p e s m args below meth c hF H locs lsA hI hL hl
  exact lv_iload hF.1 hF.2.1 hd (hl.2.2 13 _ rfl) (kk p e s m args below meth c hF H locs lsA hI hL hl)
theorem fr_al13 {x0 x1 x2 x3 x4 x5 x6 x7 x8 x9 x10 x11 x12 : Option Value} {z : Nat} (hd : decode mi.2.1 pc = .ok (.aload 13, 2)) (kk : fr_A l κ mi k Q (pc + 2) (x0 :: x1 :: x2 :: x3 :: x4 :: x5 :: x6 :: x7 :: x8 :: x9 :: x10 :: x11 :: x12 :: some (Value.ref z) :: r) (Value.ref z :: st) μ) : fr_A l κ mi k Q pc (x0 :: x1 :: x2 :: x3 :: x4 :: x5 :: x6 :: x7 :: x8 :: x9 :: x10 :: x11 :: x12 :: some (Value.ref z) :: r) st μ := by
  intro p e s m args below meth c hF H locs lsA hI hL hl
  exact lv_aload hF.1 hF.2.1 hd (hl.2.2 13 _ rfl) (kk p e s m args below meth c hF H locs lsA hI hL hl)
theorem fr_is13 {x0 x1 x2 x3 x4 x5 x6 x7 x8 x9 x10 x11 x12 : Option Value} {y : Option Value} {z : Int} (hd : decode mi.2.1 pc = .ok (.istore 13, 2)) (hc : fr_c1 x12 = true) (hn : 13 < mi.2.2.1) (kk : fr_A l κ mi k Q (pc + 2) (x0 :: x1 :: x2 :: x3 :: x4 :: x5 :: x6 :: x7 :: x8 :: x9 :: x10 :: x11 :: x12 :: some (fr_i z) :: r) st μ) : fr_A l κ mi k Q pc (x0 :: x1 :: x2 :: x3 :: x4 :: x5 :: x6 :: x7 :: x8 :: x9 :: x10 :: x11 :: x12 :: y :: r) (fr_i z :: st) μ := by
  intro p e s m args below meth c hF H locs lsA hI hL hl
  exact lv_istore hF.1 hF.2.1 hd hl.has hn rfl (fun lsB hB => kk p e s m args below meth c hF H locs lsB hI hL (hl.set1 (by simp) (fr_hp (i := 12) (y := x12) rfl hc) hB))
theorem fr_as13 {x0 x1 x2 x3 x4 x5 x6 x7 x8 x9 x10 x11 x12 : Option Value} {y : Option Value} {z : Nat} (hd : decode mi.2.1 pc = .ok (.astore 13, 2)) (hc : fr_c1 x12 = true) (hn : 13 < mi.2.2.1) (kk : fr_A l κ mi k Q (pc + 2) (x0 :: x1 :: x2 :: x3 :: x4 :: x5 :: x6 :: x7 :: x8 :: x9 :: x10 :: x11 :: x12 :: some (Value.ref z) :: r) st μ) : fr_A l κ mi k Q pc (x0 :: x1 :: x2 :: x3 :: x4 :: x5 :: x6 :: x7 :: x8 :: x9 :: x10 :: x11 :: x12 :: y :: r) (Value.ref z :: st) μ := by
  intro p e s m args below meth c hF H locs lsA hI hL hl
  exact lv_astore hF.1 hF.2.1 hd hl.has hn rfl (fun lsB hB => kk p e s m args below meth c hF H locs lsB hI hL (hl.set1 (by simp) (fr_hp (i := 12) (y := x12) rfl hc) hB))
theorem fr_ii13 {x0 x1 x2 x3 x4 x5 x6 x7 x8 x9 x10 x11 x12 : Option Value} {z n : Int} (hd : decode mi.2.1 pc = .ok (.iinc 13 n, 3)) (hc : fr_c1 x12 = true) (hn : 13 < mi.2.2.1) (kk : fr_A l κ mi k Q (pc + 3) (x0 :: x1 :: x2 :: x3 :: x4 :: x5 :: x6 :: x7 :: x8 :: x9 :: x10 :: x11 :: x12 :: some (fr_i (z + n)) :: r) st μ) : fr_A l κ mi k Q pc (x0 :: x1 :: x2 :: x3 :: x4 :: x5 :: x6 :: x7 :: x8 :: x9 :: x10 :: x11 :: x12 :: some (fr_i z) :: r) st μ := by
  intro p e s m args below meth c hF H locs lsA hI hL hl
  have hm : ((13, fr_i z) : Nat × Value) ∈ fr_as mi.2.2.1 (x0 :: x1 :: x2 :: x3 :: x4 :: x5 :: x6 :: x7 :: x8 :: x9 :: x10 :: x11 :: x12 :: some (fr_i z) :: r) := fr_as_mem.mpr ⟨hn, rfl⟩
  obtain ⟨j, hj⟩ := List.getElem?_of_mem hm
  exact lv_iinc hF.1 hF.2.1 hd hl.has hj (Int32.ofInt_add z n).symm hn rfl (fun lsB hB => kk p e s m args below meth c hF H locs lsB hI hL (hl.set1 (by simp) (fr_hp (i := 12) (y := x12) rfl hc) hB))
theorem fr_il14 {x0 x1 x2 x3 x4 x5 x6 x7 x8 x9 x10 x11 x12 x13 : Option Value} {z : Int} (hd : decode mi.2.1 pc = .ok (.iload 14, 2)) (kk : fr_A l κ mi k Q (pc + 2) (x0 :: x1 :: x2 :: x3 :: x4 :: x5 :: x6 :: x7 :: x8 :: x9 :: x10 :: x11 :: x12 :: x13 :: some (fr_i z) :: r) (fr_i z :: st) μ) : fr_A l κ mi k Q pc (x0 :: x1 :: x2 :: x3 :: x4 :: x5 :: x6 :: x7 :: x8 :: x9 :: x10 :: x11 :: x12 :: x13 :: some (fr_i z) :: r) st μ := by
  intro p e s m args below meth c hF H locs lsA hI hL hl
  exact lv_iload hF.1 hF.2.1 hd (hl.2.2 14 _ rfl) (kk p e s m args below meth c hF H locs lsA hI hL hl)
theorem fr_al14 {x0 x1 x2 x3 x4 x5 x6 x7 x8 x9 x10 x11 x12 x13 : Option Value} {z : Nat} (hd : decode mi.2.1 pc = .ok (.aload 14, 2)) (kk : fr_A l κ mi k Q (pc + 2) (x0 :: x1 :: x2 :: x3 :: x4 :: x5 :: x6 :: x7 :: x8 :: x9 :: x10 :: x11 :: x12 :: x13 :: some (Value.ref z) :: r) (Value.ref z :: st) μ) : fr_A l κ mi k Q pc (x0 :: x1 :: x2 :: x3 :: x4 :: x5 :: x6 :: x7 :: x8 :: x9 :: x10 :: x11 :: x12 :: x13 :: some (Value.ref z) :: r) st μ := by
  intro p e s m args below meth c hF H locs lsA hI hL hl
  exact lv_aload hF.1 hF.2.1 hd (hl.2.2 14 _ rfl) (kk p e s m args below meth c hF H locs lsA hI hL hl)
theorem fr_is14 {x0 x1 x2 x3 x4 x5 x6 x7 x8 x9 x10 x11 x12 x13 : Option Value} {y : Option Value} {z : Int} (hd : decode mi.2.1 pc = .ok (.istore 14, 2)) (hc : fr_c1 x13 = true) (hn : 14 < mi.2.2.1) (kk : fr_A l κ mi k Q (pc + 2) (x0 :: x1 :: x2 :: x3 :: x4 :: x5 :: x6 :: x7 :: x8 :: x9 :: x10 :: x11 :: x12 :: x13 :: some (fr_i z) :: r) st μ) : fr_A l κ mi k Q pc (x0 :: x1 :: x2 :: x3 :: x4 :: x5 :: x6 :: x7 :: x8 :: x9 :: x10 :: x11 :: x12 :: x13 :: y :: r) (fr_i z :: st) μ := by
  intro p e s m args below meth c hF H locs lsA hI hL hl
  exact lv_istore hF.1 hF.2.1 hd hl.has hn rfl (fun lsB hB => kk p e s m args below meth c hF H locs lsB hI hL (hl.set1 (by simp) (fr_hp (i := 13) (y := x13) rfl hc) hB))
theorem fr_as14 {x0 x1 x2 x3 x4 x5 x6 x7 x8 x9 x10 x11 x12 x13 : Option Value} {y : Option Value} {z : Nat} (hd : decode mi.2.1 pc = .ok (.astore 14, 2)) (hc : fr_c1 x13 = true) (hn : 14 < mi.2.2.1) (kk : fr_A l κ mi k Q (pc + 2) (x0 :: x1 :: x2 :: x3 :: x4 :: x5 :: x6 :: x7 :: x8 :: x9 :: x10 :: x11 :: x12 :: x13 :: some (Value.ref z) :: r) st μ) : fr_A l κ mi k Q pc (x0 :: x1 :: x2 :: x3 :: x4 :: x5 :: x6 :: x7 :: x8 :: x9 :: x10 :: x11 :: x12 :: x13 :: y :: r) (Value.ref z :: st) μ := by
  intro p e s m args below meth c hF H locs lsA hI hL hl
  exact lv_astore hF.1 hF.2.1 hd hl.has hn rfl (fun lsB hB => kk p e s m args below meth c hF H locs lsB hI hL (hl.set1 (by simp) (fr_hp (i := 13) (y := x13) rfl hc) hB))
theorem fr_ii14 {x0 x1 x2 x3 x4 x5 x6 x7 x8 x9 x10 x11 x12 x13 : Option Value} {z n : Int} (hd : decode mi.2.1 pc = .ok (.iinc 14 n, 3)) (hc : fr_c1 x13 = true) (hn : 14 < mi.2.2.1) (kk : fr_A l κ mi k Q (pc + 3) (x0 :: x1 :: x2 :: x3 :: x4 :: x5 :: x6 :: x7 :: x8 :: x9 :: x10 :: x11 :: x12 :: x13 :: some (fr_i (z + n)) :: r) st μ) : fr_A l κ mi k Q pc (x0 :: x1 :: x2 :: x3 :: x4 :: x5 :: x6 :: x7 :: x8 :: x9 :: x10 :: x11 :: x12 :: x13 :: some (fr_i z) :: r) st μ := by
  intro p e s m args below meth c hF H locs lsA hI hL hl
  have hm : ((14, fr_i z) : Nat × Value) ∈ fr_as mi.2.2.1 (x0 :: x1 :: x2 :: x3 :: x4 :: x5 :: x6 :: x7 :: x8 :: x9 :: x10 :: x11 :: x12 :: x13 :: some (fr_i z) :: r) := fr_as_mem.mpr ⟨hn, rfl⟩
  obtain ⟨j, hj⟩ := List.getElem?_of_mem hm
  exact lv_iinc hF.1 hF.2.1 hd hl.has hj (Int32.ofInt_add z n).symm hn rfl (fun lsB hB => kk p e s m args below meth c hF H locs lsB hI hL (hl.set1 (by simp) (fr_hp (i := 13) (y := x13) rfl hc) hB))
theorem fr_il15 {x0 x1 x2 x3 x4 x5 x6 x7 x8 x9 x10 x11 x12 x13 x14 : Option Value} {z : Int} (hd : decode mi.2.1 pc = .ok (.iload 15, 2)) (kk : fr_A l κ mi k Q (pc + 2) (x0 :: x1 :: x2 :: x3 :: x4 :: x5 :: x6 :: x7 :: x8 :: x9 :: x10 :: x11 :: x12 :: x13 :: x14 :: some (fr_i z) :: r) (fr_i z :: st) μ) : fr_A l κ mi k Q pc (x0 :: x1 :: x2 :: x3 :: x4 :: x5 :: x6 :: x7 :: x8 :: x9 :: x10 :: x11 :: x12 :: x13 :: x14 :: some (fr_i z) :: r) st μ := by
  intro p e s m args below meth c hF H locs lsA hI hL hl
  exact lv_iload hF.1 hF.2.1 hd (hl.2.2 15 _ rfl) (kk p e s m args below meth c hF H locs lsA hI hL hl)
theorem fr_al15 {x0 x1 x2 x3 x4 x5 x6 x7 x8 x9 x10 x11 x12 x13 x14 : Option Value} {z : Nat} (hd : decode mi.2.1 pc = .ok (.aload 15, 2)) (kk : fr_A l κ mi k Q (pc + 2) (x0 :: x1 :: x2 :: x3 :: x4 :: x5 :: x6 :: x7 :: x8 :: x9 :: x10 :: x11 :: x12 :: x13 :: x14 :: some (Value.ref z) :: r) (Value.ref z :: st) μ) : fr_A l κ mi k Q pc (x0 :: x1 :: x2 :: x3 :: x4 :: x5 :: x6 :: x7 :: x8 :: x9 :: x10 :: x11 :: x12 :: x13 :: x14 :: some (Value.ref z) :: r) st μ := by
  intro p e s m args below meth c hF H locs lsA hI hL hl
  exact lv_aload hF.1 hF.2.1 hd (hl.2.2 15 _ rfl) (kk p e s m args below meth c hF H locs lsA hI hL hl)
theorem fr_is15 {x0 x1 x2 x3 x4 x5 x6 x7 x8 x9 x10 x11 x12 x13 x14 : Option Value} {y : Option Value} {z : Int} (hd : decode mi.2.1 pc = .ok (.istore 15, 2)) (hc : fr_c1 x14 = true) (hn : 15 < mi.2.2.1) (kk : fr_A l κ mi k Q (pc + 2) (x0 :: x1 :: x2 :: x3 :: x4 :: x5 :: x6 :: x7 :: x8 :: x9 :: x10 :: x11 :: x12 :: x13 :: x14 :: some (fr_i z) :: r) st μ) : fr_A l κ mi k Q pc (x0 :: x1 :: x2 :: x3 :: x4 :: x5 :: x6 :: x7 :: x8 :: x9 :: x10 :: x11 :: x12 :: x13 :: x14 :: y :: r) (fr_i z :: st) μ := by
  intro p e s m args below meth c hF H locs lsA hI hL hl
  exact lv_istore hF.1 hF.2.1 hd hl.has hn rfl (fun lsB hB => kk p e s m args below meth c hF H locs lsB hI hL (hl.set1 (by simp) (fr_hp (i := 14) (y := x14) rfl hc) hB))
theorem fr_as15 {x0 x1 x2 x3 x4 x5 x6 x7 x8 x9 x10 x11 x12 x13 x14 : Option Value} {y : Option Value} {z : Nat} (hd : decode mi.2.1 pc = .ok (.astore 15, 2)) (hc : fr_c1 x14 = true) (hn : 15 < mi.2.2.1) (kk : fr_A l κ mi k Q (pc + 2) (x0 :: x1 :: x2 :: x3 :: x4 :: x5 :: x6 :: x7 :: x8 :: x9 :: x10 :: x11 :: x12 :: x13 :: x14 :: some (Value.ref z) :: r) st μ) : fr_A l κ mi k Q pc (x0 :: x1 :: x2 :: x3 :: x4 :: x5 :: x6 :: x7 :: x8 :: x9 :: x10 :: x11 :: x12 :: x13 :: x14 :: y :: r) (Value.ref z :: st) μ := by
  intro p e s m args below meth c hF H locs lsA hI hL hl
  exact lv_astore hF.1 hF.2.1 hd hl.has hn rfl (fun lsB hB => kk p e s m args below meth c hF H locs lsB hI hL (hl.set1 (by simp) (fr_hp (i := 14) (y := x14) rfl hc) hB))
theorem fr_ii15 {x0 x1 x2 x3 x4 x5 x6 x7 x8 x9 x10 x11 x12 x13 x14 : Option Value} {z n : Int} (hd : decode mi.2.1 pc = .ok (.iinc 15 n, 3)) (hc : fr_c1 x14 = true) (hn : 15 < mi.2.2.1) (kk : fr_A l κ mi k Q (pc + 3) (x0 :: x1 :: x2 :: x3 :: x4 :: x5 :: x6 :: x7 :: x8 :: x9 :: x10 :: x11 :: x12 :: x13 :: x14 :: some (fr_i (z + n)) :: r) st μ) : fr_A l κ mi k Q pc (x0 :: x1 :: x2 :: x3 :: x4 :: x5 :: x6 :: x7 :: x8 :: x9 :: x10 :: x11 :: x12 :: x13 :: x14 :: some (fr_i z) :: r) st μ := by
  intro p e s m args below meth c hF H locs lsA hI hL hl
  have hm : ((15, fr_i z) : Nat × Value) ∈ fr_as mi.2.2.1 (x0 :: x1 :: x2 :: x3 :: x4 :: x5 :: x6 :: x7 :: x8 :: x9 :: x10 :: x11 :: x12 :: x13 :: x14 :: some (fr_i z) :: r) := fr_as_mem.mpr ⟨hn, rfl⟩
  obtain ⟨j, hj⟩ := List.getElem?_of_mem hm
  exact lv_iinc hF.1 hF.2.1 hd hl.has hj (Int32.ofInt_add z n).symm hn rfl (fun lsB hB => kk p e s m args below meth c hF H locs lsB hI hL (hl.set1 (by simp) (fr_hp (i := 14) (y := x14) rfl hc) hB))
theorem fr_il16 {x0 x1 x2 x3 x4 x5 x6 x7 x8 x9 x10 x11 x12 x13 x14 x15 : Option Value} {z : Int} (hd : decode mi.2.1 pc = .ok (.iload 16, 2)) (kk : fr_A l κ mi k Q (pc + 2) (x0 :: x1 :: x2 :: x3 :: x4 :: x5 :: x6 :: x7 :: x8 :: x9 :: x10 :: x11 :: x12 :: x13 :: x14 :: x15 :: some (fr_i z) :: r) (fr_i z :: st) μ) : fr_A l κ mi k Q pc (x0 :: x1 :: x2 :: x3 :: x4 :: x5 :: x6 :: x7 :: x8 :: x9 :: x10 :: x11 :: x12 :: x13 :: x14 :: x15 :: some (fr_i z) :: r) st μ := by
  intro p e s m args below meth c hF H locs lsA hI hL hl
  exact lv_iload hF.1 hF.2.1 hd (hl.2.2 16 _ rfl) (kk p e s m args below meth c hF H locs lsA hI hL hl)
theorem fr_al16 {x0 x1 x2 x3 x4 x5 x6 x7 x8 x9 x10 x11 x12 x13 x14 x15 : Option Value} {z : Nat} (hd : decode mi.2.1 pc = .ok (.aload 16, 2)) (kk : fr_A l κ mi k Q (pc + 2) (x0 :: x1 :: x2 :: x3 :: x4 :: x5 :: x6 :: x7 :: x8 :: x9 :: x10 :: x11 :: x12 :: x13 :: x14 :: x15 :: some (Value.ref z) :: r) (Value.ref z :: st) μ) : fr_A l κ mi k Q pc (x0 :: x1 :: x2 :: x3 :: x4 :: x5 :: x6 :: x7 :: x8 :: x9 :: x10 :: x11 :: x12 :: x13 :: x14 :: x15 :: some (Value.ref z) :: r) st μ := by
  intro p e s m args below meth c hF H locs lsA hI hL hl
  exact lv_aload hF.1 hF.2.1 hd (hl.2.2 16 _ rfl) (kk p e s m args below meth c hF H locs lsA hI hL hl)
theorem fr_is16 {x0 x1 x2 x3 x4 x5 x6 x7 x8 x9 x10 x11 x12 x13 x14 x15 : Option Value} {y : Option Value} {z : Int} (hd : decode mi.2.1 pc = .ok (.istore 16, 2)) (hc : fr_c1 x15 = true) (hn : 16 < mi.2.2.1) (kk : fr_A l κ mi k Q (pc + 2) (x0 :: x1 :: x2 :: x3 :: x4 :: x5 :: x6 :: x7 :: x8 :: x9 :: x10 :: x11 :: x12 :: x13 :: x14 :: x15 :: some (fr_i z) :: r) st μ) : fr_A l κ mi k Q pc (x0 :: x1 :: x2 :: x3 :: x4 :: x5 :: x6 :: x7 :: x8 :: x9 :: x10 :: x11 :: x12 :: x13 :: x14 :: x15 :: y :: r) (fr_i z :: st) μ := by
  intro p e s m args below meth c hF H locs lsA hI hL hl
  exact lv_istore hF.1 hF.2.1 hd hl.has hn rfl (fun lsB hB => kk p e s m args below meth c hF H locs lsB hI hL (hl.set1 (by simp) (fr_hp (i := 15) (y := x15) rfl hc) hB))
theorem fr_as16 {x0 x1 x2 x3 x4 x5 x6 x7 x8 x9 x10 x11 x12 x13 x14 x15 : Option Value} {y : Option Value} {z : Nat} (hd : decode mi.2.1 pc = .ok (.astore 16, 2)) (hc : fr_c1 x15 = true) (hn : 16 < mi.2.2.1) (kk : fr_A l κ mi k Q (pc + 2) (x0 :: x1 :: x2 :: x3 :: x4 :: x5 :: x6 :: x7 :: x8 :: x9 :: x10 :: x11 :: x12 :: x13 :: x14 :: x15 :: some (Value.ref z) :: r) st μ) : fr_A l κ mi k Q pc (x0 :: x1 :: x2 :: x3 :: x4 :: x5 :: x6 :: x7 :: x8 :: x9 :: x10 :: x11 :: x12 :: x13 :: x14 :: x15 :: y :: r) (Value.ref z :: st) μ := by
  intro p e s m args below meth c hF H locs lsA hI hL hl
  exact lv_astore hF.1 hF.2.1 hd hl.has hn rfl (fun lsB hB => kk p e s m args below meth c hF H locs lsB hI hL (hl.set1 (by simp) (fr_hp (i := 15) (y := x15) rfl hc) hB))
theorem fr_ii16 {x0 x1 x2 x3 x4 x5 x6 x7 x8 x9 x10 x11 x12 x13 x14 x15 : Option Value} {z n : Int} (hd : decode mi.2.1 pc = .ok (.iinc 16 n, 3)) (hc : fr_c1 x15 = true) (hn : 16 < mi.2.2.1) (kk : fr_A l κ mi k Q (pc + 3) (x0 :: x1 :: x2 :: x3 :: x4 :: x5 :: x6 :: x7 :: x8 :: x9 :: x10 :: x11 :: x12 :: x13 :: x14 :: x15 :: some (fr_i (z + n)) :: r) st μ) : fr_A l κ mi k Q pc (x0 :: x1 :: x2 :: x3 :: x4 :: x5 :: x6 :: x7 :: x8 :: x9 :: x10 :: x11 :: x12 :: x13 :: x14 :: x15 :: some (fr_i z) :: r) st μ := by
  intro p e s m args below meth c hF H locs lsA hI hL hl
  have hm : ((16, fr_i z) : Nat × Value) ∈ fr_as mi.2.2.1 (x0 :: x1 :: x2 :: x3 :: x4 :: x5 :: x6 :: x7 :: x8 :: x9 :: x10 :: x11 :: x12 :: x13 :: x14 :: x15 :: some (fr_i z) :: r) := fr_as_mem.mpr ⟨hn, rfl⟩
  obtain ⟨j, hj⟩ := List.getElem?_of_mem hm
  exact lv_iinc hF.1 hF.2.1 hd hl.has hj (Int32.ofInt_add z n).symm hn rfl (fun lsB hB => kk p e s m args below meth c hF H locs lsB hI hL (hl.set1 (by simp) (fr_hp (i := 15) (y := x15) rfl hc) hB))
end LOCALS
