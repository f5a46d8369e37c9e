/-! THE LAW from its entry: the tables, the text, both objects, then the loop -/
theorem nw_cls (ci : Nat) (q : vw_C) (h : vwCl[ci]? = some q) : (∀ w ∈ u_ws q.1 q.2.1 q.2.2, w ∈ fr_tb) ∧ Cond.instantiable q.1 q.2.2 ∈ fr_tb := by
  match ci, h with
  | 0, h => cases h; exact ⟨fr_in0, nw_kX0.2.2.2.2.2.2.1⟩
  | 1, h => cases h; exact ⟨fr_in1, nw_kX1.2.2.2.2.2.2.1⟩
  | 2, h => cases h; exact ⟨fr_in2, nw_kX2.2.2.2.2.2.2.1⟩
  | 3, h => cases h; exact ⟨fr_in3, nw_kX3.2.2.2.2.2.2.1⟩
  | 4, h => cases h; exact ⟨fr_in4, nw_kX4.2.2.2.2.2.2.1⟩
  | 5, h => cases h; exact ⟨fr_in5, nw_kX5.2.2.2.2.2.2.1⟩
  | 6, h => cases h; exact ⟨fr_in6, nw_kX6.2.2.2.2.2.2.1⟩
  | 7, h => cases h; exact ⟨fr_in7, nw_kX7.2.2.2.2.2.2.1⟩
  | 8, h => cases h; exact ⟨fr_in8, nw_kX8.2.2.2.2.2.2.1⟩
  | 9, h => cases h; exact ⟨fr_in9, nw_kX9.2.2.2.2.2.2.1⟩
  | 10, h => cases h; exact ⟨fr_in10, nw_kX10.2.2.2.2.2.2.1⟩
  | 11, h => cases h; exact ⟨fr_in11, nw_kX11.2.2.2.2.2.2.1⟩
  | n + 12, h => exact absurd h (by simp [vwCl])
def nw_ty (a : Nat) : Option FieldType := ([.int, .long, .boolean, .object RX7, .object RX0, .object RX5] : List FieldType)[a]?
theorem nw_aP {A : Array Value} {s : State} {ty : FieldType} (h : (Cond.arrayClass ty).before A s = true) (hra : ∀ U cA, U.vm.findClass ("[" ++ ty.toString) = some cA → va_RA U cA ty) : ∃ cA : ClassId, ArrOfT s cA ty ∧ va_RA s cA ty := by
  obtain ⟨cA, k, comp, h1, h2, h3⟩ := Cond.arrayClass_spec (first := s) (o := none) (idx := []) h
  exact ⟨cA, fun n z => ⟨fun k h => (by cases h), k, h2, comp, h3⟩, hra _ _ h1⟩
theorem nw_aO {A : Array Value} {s : State} {C : String} (h : (Cond.arrayOver (.object C)).before A s = true) : ∃ cA : ClassId, ArrOfT s cA (.object C) ∧ va_RA s cA (.object C) := by
  obtain ⟨comp, cA, k, h1, h2, h3, h4, h5⟩ := Cond.arrayOver_spec (first := s) (o := none) (idx := []) h
  exact ⟨cA, fun n z => ⟨fun k h => (by cases h), k, h3, comp, h4⟩, k, comp, h3, h4, h1, h5⟩
theorem ws_kap {p : Program} {s : State} {m : MethodId} {meth : Method} {c : Code} {b L : Nat} {xs : Nat → Int32} (C0 : lw_At p s m meth c b L xs) : ∃ κ : fr_Ka, nw_K κ ∧ κ.2.2.2 = s.heap ∧ fr_Vm κ s := by
  obtain ⟨hx, hb, hr, hml, hown, hts, hX, hbl, hlocks, hgv⟩ := C0
  have htb : ∀ w ∈ fr_tb, w.before #[Value.ref b] s = true := fun w hw => hts w (List.mem_filter.mp hw).1
  have hcl : ∀ ci : Nat, ∃ x : ClassId × (Nat → Nat), ∀ q, vwCl[ci]? = some q → u_Kn s q.1 q.2.1 q.2.2 x.1 x.2 := by
    intro ci
    cases h : vwCl[ci]? with
    | none => exact ⟨(0, fun _ => 0), fun q hq => by cases hq⟩
    | some q =>
      obtain ⟨h1, h2⟩ := nw_cls ci q h
      obtain ⟨cC, iS, hk⟩ := u_known (n := q.2.2) htb h1 (htb _ h2)
      exact ⟨(cC, iS), fun q' hq' => by cases hq'; exact hk⟩
  obtain ⟨D, hD⟩ := Classical.axiomOfChoice hcl
  have hty : ∀ a : Nat, ∃ cA : ClassId, ∀ ty, nw_ty a = some ty → ArrOfT s cA ty ∧ va_RA s cA ty := by
    intro a
    match a with
    | 0 => obtain ⟨cA, h⟩ := nw_aP (ty := .int) (hts _ (List.mem_of_getElem? (i := 150) (by decide +kernel))) (fun _ _ h => h); exact ⟨cA, fun ty ht => by cases ht; exact h⟩
    | 1 => obtain ⟨cA, h⟩ := nw_aP (ty := .long) (hts _ (List.mem_of_getElem? (i := 415) (by decide +kernel))) (fun _ _ h => h); exact ⟨cA, fun ty ht => by cases ht; exact h⟩
    | 2 => obtain ⟨cA, h⟩ := nw_aP (ty := .boolean) (hts _ (List.mem_of_getElem? (i := 1159) (by decide +kernel))) (fun _ _ h => h); exact ⟨cA, fun ty ht => by cases ht; exact h⟩
    | 3 => obtain ⟨cA, h⟩ := nw_aO (C := RX7) (hts _ (List.mem_of_getElem? (i := 102) (by decide +kernel))); exact ⟨cA, fun ty ht => by cases ht; exact h⟩
    | 4 => obtain ⟨cA, h⟩ := nw_aO (C := RX0) (hts _ (List.mem_of_getElem? (i := 104) (by decide +kernel))); exact ⟨cA, fun ty ht => by cases ht; exact h⟩
    | 5 => obtain ⟨cA, h⟩ := nw_aO (C := RX5) (hts _ (List.mem_of_getElem? (i := 242) (by decide +kernel))); exact ⟨cA, fun ty ht => by cases ht; exact h⟩
    | n + 6 => exact ⟨0, fun ty ht => by simp [nw_ty] at ht⟩
  obtain ⟨cA, hcA⟩ := Classical.axiomOfChoice hty
  have hn := flat_of_before _ hgv
  have hA : ∀ a : Nat, a < s.heap.size → ¬ s.heap.size ≤ a := fun a h => Nat.not_le.mpr h
  have one : ∀ i : Nat, i < 1 → i = 0 := fun i h => by omega
  obtain ⟨adK, adV, hS, hev⟩ := vk_Sof (args := #[Value.ref b]) (s := s) (N := 1) (tm := fun _ => Term.string RX6 39) (len := [4]) (byt := [[80, 71, 68, 83]]) (A := fun q => s.heap.size ≤ q) (fun i hi => by rw [one i hi]; decide) (fun i hi => hn _ (by decide +kernel)) (fun i hi => hn _ (by decide +kernel)) (fun i hi => hn _ (by decide +kernel)) (fun i hi => by rw [one i hi]; exact hn _ (by decide +kernel))
    (fun i hi j hj => by
      rw [one i hi] at hj ⊢
      have hj4 : j < 4 := hj
      rcases (by omega : j = 0 ∨ j = 1 ∨ j = 2 ∨ j = 3) with rfl | rfl | rfl | rfl <;> exact hn _ (by decide +kernel))
    (fun i j hi hj hne => absurd (by rw [one i hi, one j hj]) hne) hA
  have hR : vk_R RX6 39 "PGDS" (adK 0) s := vk_R.of (hts _ (List.mem_of_getElem? (i := 591) (by decide +kernel))) (hev 0 (by decide))
  have hZ : va_Z "java/lang/String" "COMPACT_STRINGS" "Z" (.int 1) (fun q => s.heap.size ≤ q) s s.heap := va_Zof (hts _ (List.mem_of_getElem? (i := 609) (by decide +kernel))) (hts _ (List.mem_of_getElem? (i := 78) (by decide +kernel))) (va_eqi (hn _ (by decide +kernel))) hA
  refine ⟨((fun ci => (D ci).1, fun ci => (D ci).2), cA, fun c => if c = 80 then adK 0 else if c = 81 then adV 0 else s.heap.size + nw_o c, s.heap), ?_, rfl, ⟨fun ci q hq => hD ci q hq, fun k q hk => ?_⟩, fun w hw => ?_, ?_⟩
  · intro c h0 h1
    show (if c = 80 then adK 0 else if c = 81 then adV 0 else s.heap.size + nw_o c) = _
    rw [if_neg (by omega), if_neg (by omega)]
  · match k, hk with
    | 0, hk => cases hk; exact hcA 0 _ rfl
    | 1, hk => cases hk; exact hcA 1 _ rfl
    | 2, hk => cases hk; exact hcA 2 _ rfl
    | 3, hk => cases hk; exact hcA 3 _ rfl
    | 4, hk => cases hk; exact hcA 4 _ rfl
    | 5, hk => cases hk; exact hcA 5 _ rfl
    | n + 6, hk => exact absurd hk (by simp [fr_tys])
  · have hm := List.mem_filter.mp hw
    refine va_Nw.of ?_ (hts w hm.1)
    rcases fr_nest_spec hm.2 with ⟨a, i, b, n, d, o, rfl⟩ | ⟨a, i, x, o, rfl⟩ <;> rfl
  · obtain ⟨s1, s2, s3, s4⟩ := hS.1 0 (by decide)
    exact ⟨hR, s1, s2, s3, s4, hZ⟩

set_option maxRecDepth 100000 in
/-- the law, from its entry, for every script -/
theorem whole_start {p : Program} {e : Env} {s : State} {m : MethodId} {below : List Frame} {meth : Method} {c : Code} (l : Launch) {b L : Nat} {xs : Nat → Int32} (hL : L ≤ 384) (C0 : lw_At p s m meth c b L xs) : W p l e room_1 s m #[Value.ref b] below meth c s.heap [] 0 0 (lw_Z below #[Value.ref b] s) (entryFrame m ([Value.ref b] : List Value).toArray 4) := by
  obtain ⟨κ, hK, hH, hV⟩ := ws_kap C0
  obtain ⟨hx, hb, hr, hml, hown, hts, hX, hbl, hlocks, hgv⟩ := C0
  have htb : ∀ w ∈ fr_tb, w.before #[Value.ref b] s = true := fun w hw => hts w (List.mem_filter.mp hw).1
  have hF : fr_F κ fm_law p s m #[Value.ref b] meth c := ⟨hx, hb, hr, hml, hown, htb, hlocks, hV⟩
  have hO : nw_O s := ⟨va_AO.of (hts _ (List.mem_of_getElem? (i := 102) (by decide +kernel))), va_AO.of (hts _ (List.mem_of_getElem? (i := 104) (by decide +kernel))), va_AO.of (hts _ (List.mem_of_getElem? (i := 242) (by decide +kernel)))⟩
  have hI0 : nw_In κ 0 0 s.heap := ⟨hK, fun k q h => by simp [nw_wl] at h, by rw [hH]; rfl, fun q hq => by rw [hH]⟩
  rw [lg_entry_eq]
  have hl0 : fr_lh ((lg_sl [Value.ref b] ++ List.replicate (4 - (lg_sl [Value.ref b]).length) Slot.unset).toArray) 4 [some (Value.ref b), none, none, none] := fr_el_lh (as := [Value.ref b]) (n := 4) (Nat.le_of_ble_eq_true rfl)
  generalize (lg_sl [Value.ref b] ++ List.replicate (4 - (lg_sl [Value.ref b]).length) Slot.unset).toArray = lsA at hl0 ⊢
  refine nw_Wnew (c := 0) (n := 0) (t := 0) nw_kX10 hF hI0 dL_law_0 (fr_mem 87 (by decide +kernel) rfl) (by decide +kernel) rfl (by decide) (by decide) (fun H1 hI1 => ?_)
  refine lv_dup hx hb dL_law_3 rfl ?_
  refine nw_Wcall (mi' := fmX10_init) (k' := 3) (c := 0) (as := []) (st := [fr_r κ 0]) (n := 1) (t := 0) (n' := 66) (t' := 92) hF hO hI1 (fun q hq => by cases hq) hl0.1 dL_law_4 mlL_9 miX10 (by decide) ncX10_0 rfl rfl (Nat.le_of_ble_eq_true rfl) (by decide +kernel) (by decide +kernel) (fun H2 locs2 hI2 hL2 => ?_)
  refine lv_astore_n hx hb dL_law_7 rfl hl0.has (by decide) rfl (fun lsB hB => ?_)
  have hl1 : fr_lh lsB 4 [some (Value.ref b), some (fr_r κ 0), none, none] := hl0.set1 (by simp) (fr_hp (i := 0) (y := some (Value.ref b)) rfl rfl) hB
  refine nw_Wnew (c := 66) (n := 66) (t := 92) nw_kX11 hF hI2 dL_law_8 (fr_mem 1098 (by decide +kernel) rfl) (by decide +kernel) rfl (by decide +kernel) (by decide +kernel) (fun H3 hI3 => ?_)
  refine lv_dup hx hb dL_law_11 rfl ?_
  refine nw_Wcall (mi' := fmX11_init) (k' := 1) (c := 66) (as := []) (st := [fr_r κ 66]) (n := 67) (t := 92) (n' := 80) (t' := 120) hF hO hI3 hL2 hl1.1 dL_law_12 mlL_12 miX11 (by decide) ncX11_66 rfl rfl (Nat.le_of_ble_eq_true rfl) (by decide +kernel) (by decide +kernel) (fun H4 locs4 hI4 hL4 => ?_)
  refine lv_astore_n hx hb dL_law_15 rfl hl1.has (by decide) rfl (fun lsC hC => ?_)
  have hl2 : fr_lh lsC 4 [some (Value.ref b), some (fr_r κ 0), some (fr_r κ 66), none] := hl1.set1 (by simp) (fr_hp (i := 1) (y := some (fr_r κ 0)) rfl rfl) hC
  refine lv_iconst (v := Int32.ofInt 0) hx hb dL_law_16 rfl ?_
  refine lv_istore_n hx hb dL_law_17 rfl hl2.has (by decide) rfl (fun lsD hD => ?_)
  have hl3 : fr_lh lsD 4 [some (Value.ref b), some (fr_r κ 0), some (fr_r κ 66), some (fr_i 0)] := hl2.set1 (by simp) (fr_hp (i := 2) (y := some (fr_r κ 66)) rfl rfl) hD
  refine W.widen (k := 600000) (n := 7302250) (by decide +kernel) (by decide +kernel) ?_
  exact law_loop hL nw_m nw_St p e s m below meth c hF ⟨hH, hX, hbl⟩ H4 locs4 lsD (nw_end hI4) hL4 hl3

