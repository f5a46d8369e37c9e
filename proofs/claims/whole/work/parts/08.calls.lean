/-! entry and calls -/
def fr_ex : List Value → List (Option Value)
  | [] => []
  | v :: r => match v with
    | .long x => some (.long x) :: none :: fr_ex r
    | .double x => some (.double x) :: none :: fr_ex r
    | v => some v :: fr_ex r
theorem fr_ex_args (vs : List Value) : ∀ (i0 : Nat) (i : Nat) (v : Value), (fr_ex vs)[i]? = some (some v) → (i0 + i, v) ∈ lv_args i0 vs := by
  induction vs with
  | nil => intro i0 i v h; simp [fr_ex] at h
  | cons u r ih =>
    intro i0 i v h
    have one : ∀ (w : Value), w.category = 1 → (some w :: fr_ex r)[i]? = some (some v) → (i0 + i, v) ∈ lv_args i0 (w :: r) := by
      intro w hw h
      rw [lv_args, if_neg (by omega)]
      cases i with
      | zero => cases h; exact List.mem_cons_self
      | succ i =>
        have := ih (i0 + 1) i v h
        rw [show i0 + (i + 1) = i0 + 1 + i by omega]
        exact List.mem_cons_of_mem _ this
    have two : ∀ (w : Value), w.category = 2 → (some w :: none :: fr_ex r)[i]? = some (some v) → (i0 + i, v) ∈ lv_args i0 (w :: r) := by
      intro w hw h
      rw [lv_args, if_pos hw]
      match i, h with
      | 0, h => cases h; exact List.mem_cons_self
      | 1, h => simp at h
      | i + 2, h =>
        have := ih (i0 + 2) i v h
        rw [show i0 + (i + 2) = i0 + 2 + i by omega]
        exact List.mem_cons_of_mem _ this
    cases u <;> first | exact two _ rfl h | exact one _ rfl h
def fr_el (n : Nat) (as : List Value) : List (Option Value) := fr_ex as ++ List.replicate (n - (fr_ex as).length) none
theorem fr_slen (vs : List Value) : (lg_sl vs).length = (fr_ex vs).length := by
  induction vs with
  | nil => rfl
  | cons u r ih =>
    have e : lg_sl (u :: r) = (if u.category = 2 then [Slot.val u, Slot.second] else [Slot.val u]) ++ lg_sl r := by simp [lg_sl]
    rw [e, List.length_append, ih]
    cases u <;> simp [fr_ex, Value.category] <;> omega
theorem fr_el_lh {n : Nat} {as : List Value} (h : (fr_ex as).length ≤ n) : fr_lh ((lg_sl as ++ List.replicate (n - (lg_sl as).length) Slot.unset).toArray) n (fr_el n as) := by
  obtain ⟨h1, h2, h3⟩ := lv_entry as (n := n) (by rw [fr_slen]; exact h)
  refine ⟨h1, h2, fun i v hv => ?_⟩
  have hi : i < (fr_ex as).length := by
    apply Nat.lt_of_not_le
    intro hge
    rw [fr_el, List.getElem?_append_right hge] at hv
    have := List.mem_of_getElem? hv
    simp at this
  rw [fr_el, List.getElem?_append_left hi] at hv
  have := fr_ex_args as 0 i v hv
  rw [Nat.zero_add] at this
  exact h3 (i, v) this
theorem fr_enter {l : Launch} {κ : fr_Ka} {mi : fr_Mi} {k : Nat} {Q : Option Value → fr_Me → Prop} {as : List Value} {μ : fr_Me} {ls : List (Option Value)} (hp : plainName mi.1.cls = true) (hls : fr_el mi.2.2.1 as = ls) (hle : (fr_ex as).length ≤ mi.2.2.1) (h : fr_A l κ mi k Q 0 ls [] μ) : fr_C l κ mi k as μ Q := by
  subst hls
  refine Met.ofW (cc := mi.2.1) (maxL := mi.2.2.1) (ret := mi.2.2.2) hp rfl ?_
  intro p e s m args below meth c s₁ B hml hv
  obtain ⟨rfl, hI, hV⟩ := hv
  have hts := atoms_spec (ws := fr_ws mi) B.pre
  have hown : s.vm.findClass mi.1.cls = some m.cls := findClass_of_methodNamed B.named
  rw [lg_entry_eq]
  exact h p e s m as.toArray below meth c ⟨B.exec, B.bytes, B.returns, hml, hown, fun w hw => hts w (List.mem_cons_of_mem _ hw), B.notSynchronized, hV⟩ s.heap [] _ hI (fun q hq => by cases hq) (fr_el_lh hle)
def fr_ml (own : String) (idx : Nat) (y : MethodName) : Prop := Cond.methodLink own idx y ∈ fr_tb ∨ Cond.methodLinkNest own idx y RX10 ∈ fr_nw
def fr_mc (mi : fr_Mi) (n : Nat) : Prop := Cond.code mi.1 mi.2.1 mi.2.2.1 mi.2.2.2 ∈ fr_tb ∧ Cond.initialized mi.1.cls ∈ fr_tb ∧ mi.1.cls ≠ "java/lang/invoke/MethodHandle" ∧ mi.1.cls ≠ "java/lang/invoke/VarHandle" ∧ (parseMethodDescriptor mi.1.desc).map (fun d => d.parameters.length) = some n ∧ mi.2.2.1 ≤ 40
def fr_mv (mi : fr_Mi) (n : Nat) : Prop := fr_mc mi n ∧ Cond.instanceMethod mi.1 ∈ fr_tb ∧ Cond.selects mi.1.cls mi.1 mi.1 ∈ fr_tb
def fr_ms (mi : fr_Mi) (n : Nat) : Prop := fr_mc mi n ∧ Cond.static mi.1 ∈ fr_tb
/-- cell c is an object of the class that has this method -/
def fr_rc (c : Int) (mi : fr_Mi) : Prop := ∃ (ci : Nat) (q : vw_C), fr_ob c ci ∧ vwCl[ci]? = some q ∧ q.1 = mi.1.cls
section CALLS
variable {l : Launch} {κ : fr_Ka} {mi mi' : fr_Mi} {k k' : Nat} {Q Q' : Option Value → fr_Me → Prop} {pc n idx : Nat} {ls : List (Option Value)} {st st0 as : List Value} {μ : fr_Me}
theorem fr_callR {R : Room} {p : Program} {e : Env} {s : State} {m : MethodId} {args : Array Value} {below : List Frame} {meth : Method} {c : Code} {H : Heap} {locs : List Loc} {lsA : Array Slot} {a : Array Value}
    (hr : va_Run p l e R s m args below meth c H locs 0 0 0 0 (F0 m pc lsA st0) st (fr_Qc κ Q' a) (fr_fA κ)) (hL : ∀ q ∈ locs, fr_fA κ q.base) {Z : State → Prop}
    (kk : ∀ (v : Option Value) (μ' : fr_Me), Q' v μ' → ∀ (H1 : Heap) (locs1 : List Loc), fr_In κ μ' H1 → (∀ q ∈ locs1, fr_fA κ q.base) → W p l e R s m args below meth c H1 locs1 0 0 Z (F0 m (pc + 3) lsA (v.toList ++ st))) : W p l e R s m args below meth c H locs 0 0 Z (F0 m pc lsA st0) := by
  intro T hT X
  obtain ⟨v, st₀, t, T', L, h0, X', hL2, e1, e2, ⟨v2, μ', hv, hq, hI⟩, stp⟩ := hr T hT X
  cases hv
  obtain ⟨t2, a1, b1⟩ := kk v μ' hq T'.heap (locs ++ L) (by rw [e1]; exact hI) (fun q h => by
    rcases List.mem_append.mp h with h | h
    · exact hL q h
    · exact hL2 q h) T' rfl X'
  exact ⟨t2, stp t2 a1, b1⟩
theorem fr_callV {c : Int} (hd : decode mi.2.1 pc = .ok (.invokevirtual idx, 3)) (hl : fr_ml mi.1.cls idx mi'.1) (hm : fr_mv mi' n) (hc : fr_rc c mi') (hk : k' + 1 ≤ k) (hC : fr_C l κ mi' k' (fr_r κ c :: as) μ Q') (hn : as.length = n) (hst : st0 = as.reverse ++ fr_r κ c :: st) (hw : (st.map fun v => v.category).sum ≤ 8)
    (kk : ∀ (v : Option Value) (μ' : fr_Me), Q' v μ' → fr_A l κ mi k Q (pc + 3) ls (v.toList ++ st) μ') : fr_A l κ mi k Q pc ls st0 μ := by
  subst hst
  intro p e s m args below meth c' hF H locs lsA hI hL hlo
  obtain ⟨⟨hmc, hmi, hm1, hm2, hm3, hm4⟩, hms, hmsel⟩ := hm
  obtain ⟨ci, q, hob, hq, hqn⟩ := hc
  have hts := hF.2.2.2.2.2.1
  have hR : (fr_rm k').frames + 1 ≤ (fr_rm k).frames ∧ 8 + (mi'.2.2.1 + 11) + (fr_rm k').locals ≤ (fr_rm k).locals := ⟨hk, by show 8 + (mi'.2.2.1 + 11) + 64 * k' ≤ 64 * k; omega⟩
  have hrecv := va_recv hF.2.2.2.2.2.2.2.1 hI.2.1 hq (fr_ob_at κ μ hob)
  rw [hqn] at hrecv
  have hpre : PreV s H mi'.1.cls (κ.2.2.1 c) (fr_Pc κ (fr_r κ c :: as) μ) as := ⟨fr_Pc.blind _ _ _, hrecv, fun U hU hW => ⟨rfl, by rw [hU]; exact hI, hF.2.2.2.2.2.2.2.warm hW⟩⟩
  have hfx : CallFix p m c' mi.2.1 mi.2.2.1 s args fr_tb mi.1.cls := ⟨hF.1, hF.2.1, hF.2.2.2.1, hF.2.2.2.2.1, hts⟩
  refine fr_callR (Q' := Q') (st := st) (a := (Value.ref (κ.2.2.1 c) :: as).toArray) ?_ hL (fun v μ' hq H1 locs1 g1 g2 => kk v μ' hq p e s m args below meth c' hF H1 locs1 lsA g1 g2 hlo)
  rcases hl with hl | hl
  · exact va_runV (C := mi'.1.cls) hfx hC ⟨callB_of n hts (fr_good mi mi' hmc) rfl rfl rfl (hts _ hmi) (hts _ hl) ⟨hm1, hm2, hm3⟩ hR, hts _ hms, hts _ hmsel⟩ hpre rfl hn hlo.1 rfl (by simpa [F0, JFrame.monitorRoom] using hw) hd ⟨Nat.zero_le _, Nat.zero_le _⟩
  · exact va_runVN (C := mi'.1.cls) hfx hC ⟨va_cnB n hts (fr_good mi mi' hmc) rfl rfl rfl (hF.2.2.2.2.2.2.2.2.1 _ hl) (hts _ hmi) ⟨hm1, hm2, hm3⟩ hR, hts _ hms, hts _ hmsel⟩ hpre rfl hn hlo.1 rfl (by simpa [F0, JFrame.monitorRoom] using hw) hd ⟨Nat.zero_le _, Nat.zero_le _⟩
theorem fr_callS (hd : decode mi.2.1 pc = .ok (.invokestatic idx, 3)) (hl : fr_ml mi.1.cls idx mi'.1) (hm : fr_ms mi' n) (hk : k' + 1 ≤ k) (hC : fr_C l κ mi' k' as μ Q') (hn : as.length = n) (hst : st0 = as.reverse ++ st) (hw : (st.map fun v => v.category).sum ≤ 8)
    (kk : ∀ (v : Option Value) (μ' : fr_Me), Q' v μ' → fr_A l κ mi k Q (pc + 3) ls (v.toList ++ st) μ') : fr_A l κ mi k Q pc ls st0 μ := by
  subst hst
  intro p e s m args below meth c' hF H locs lsA hI hL hlo
  obtain ⟨⟨hmc, hmi, hm1, hm2, hm3, hm4⟩, hms⟩ := hm
  have hts := hF.2.2.2.2.2.1
  have hR : (fr_rm k').frames + 1 ≤ (fr_rm k).frames ∧ 8 + (mi'.2.2.1 + 11) + (fr_rm k').locals ≤ (fr_rm k).locals := ⟨hk, by show 8 + (mi'.2.2.1 + 11) + 64 * k' ≤ 64 * k; omega⟩
  have hpre : PreS s H (fr_Pc κ as μ) as := ⟨fr_Pc.blind _ _ _, fun U hU hW => ⟨rfl, by rw [hU]; exact hI, hF.2.2.2.2.2.2.2.warm hW⟩⟩
  have hfx : CallFix p m c' mi.2.1 mi.2.2.1 s args fr_tb mi.1.cls := ⟨hF.1, hF.2.1, hF.2.2.2.1, hF.2.2.2.2.1, hts⟩
  refine fr_callR (Q' := Q') (st := st) (a := as.toArray) ?_ hL (fun v μ' hq H1 locs1 g1 g2 => kk v μ' hq p e s m args below meth c' hF H1 locs1 lsA g1 g2 hlo)
  rcases hl with hl | hl
  · exact va_runS hfx hC ⟨callB_of n hts (fr_good mi mi' hmc) rfl rfl rfl (hts _ hmi) (hts _ hl) ⟨hm1, hm2, hm3⟩ hR, hts _ hms⟩ hpre rfl hn hlo.1 rfl (by simpa [F0, JFrame.monitorRoom] using hw) hd ⟨Nat.zero_le _, Nat.zero_le _⟩
  · exact va_runSN hfx hC ⟨va_cnB n hts (fr_good mi mi' hmc) rfl rfl rfl (hF.2.2.2.2.2.2.2.2.1 _ hl) (hts _ hmi) ⟨hm1, hm2, hm3⟩ hR, hts _ hms, trivial⟩ hpre rfl hn hlo.1 rfl (by simpa [F0, JFrame.monitorRoom] using hw) hd ⟨Nat.zero_le _, Nat.zero_le _⟩
end CALLS
/-- a method that answers the int z and leaves the memory μ' -/
def fr_Ei (z : Int) (μ' : fr_Me) : Option Value → fr_Me → Prop := fun v m => v = some (fr_i z) ∧ m = μ'
def fr_Ej (z : Int) (μ' : fr_Me) : Option Value → fr_Me → Prop := fun v m => v = some (fr_j z) ∧ m = μ'
def fr_Ev (μ' : fr_Me) : Option Value → fr_Me → Prop := fun v m => v = none ∧ m = μ'
/-- .. an int and a memory of which P holds -/
def fr_Pi (P : Int → fr_Me → Prop) : Option Value → fr_Me → Prop := fun v m => ∃ z, v = some (fr_i z) ∧ P z m
def fr_Pv (P : fr_Me → Prop) : Option Value → fr_Me → Prop := fun v m => v = none ∧ P m
section CALLS2
variable {l : Launch} {κ : fr_Ka} {mi mi' : fr_Mi} {k k' : Nat} {Q Q' : Option Value → fr_Me → Prop} {pc n idx : Nat} {ls : List (Option Value)} {st st0 as : List Value} {μ μ' : fr_Me} {z : Int}
theorem fr_cVi {c : Int} (hd : decode mi.2.1 pc = .ok (.invokevirtual idx, 3)) (hl : fr_ml mi.1.cls idx mi'.1) (hm : fr_mv mi' n) (hc : fr_rc c mi') (hk : k' + 1 ≤ k) (hC : fr_C l κ mi' k' (fr_r κ c :: as) μ (fr_Ei z μ')) (hn : as.length = n) (hst : st0 = as.reverse ++ fr_r κ c :: st) (hw : (st.map fun v => v.category).sum ≤ 8)
    (kk : fr_A l κ mi k Q (pc + 3) ls (fr_i z :: st) μ') : fr_A l κ mi k Q pc ls st0 μ := fr_callV hd hl hm hc hk hC hn hst hw (fun v m h => by obtain ⟨rfl, rfl⟩ := h; exact kk)
theorem fr_cVj {c : Int} (hd : decode mi.2.1 pc = .ok (.invokevirtual idx, 3)) (hl : fr_ml mi.1.cls idx mi'.1) (hm : fr_mv mi' n) (hc : fr_rc c mi') (hk : k' + 1 ≤ k) (hC : fr_C l κ mi' k' (fr_r κ c :: as) μ (fr_Ej z μ')) (hn : as.length = n) (hst : st0 = as.reverse ++ fr_r κ c :: st) (hw : (st.map fun v => v.category).sum ≤ 8)
    (kk : fr_A l κ mi k Q (pc + 3) ls (fr_j z :: st) μ') : fr_A l κ mi k Q pc ls st0 μ := fr_callV hd hl hm hc hk hC hn hst hw (fun v m h => by obtain ⟨rfl, rfl⟩ := h; exact kk)
theorem fr_cVv {c : Int} (hd : decode mi.2.1 pc = .ok (.invokevirtual idx, 3)) (hl : fr_ml mi.1.cls idx mi'.1) (hm : fr_mv mi' n) (hc : fr_rc c mi') (hk : k' + 1 ≤ k) (hC : fr_C l κ mi' k' (fr_r κ c :: as) μ (fr_Ev μ')) (hn : as.length = n) (hst : st0 = as.reverse ++ fr_r κ c :: st) (hw : (st.map fun v => v.category).sum ≤ 8)
    (kk : fr_A l κ mi k Q (pc + 3) ls st μ') : fr_A l κ mi k Q pc ls st0 μ := fr_callV hd hl hm hc hk hC hn hst hw (fun v m h => by obtain ⟨rfl, rfl⟩ := h; exact kk)
theorem fr_cVP {c : Int} {P : Int → fr_Me → Prop} (hd : decode mi.2.1 pc = .ok (.invokevirtual idx, 3)) (hl : fr_ml mi.1.cls idx mi'.1) (hm : fr_mv mi' n) (hc : fr_rc c mi') (hk : k' + 1 ≤ k) (hC : fr_C l κ mi' k' (fr_r κ c :: as) μ (fr_Pi P)) (hn : as.length = n) (hst : st0 = as.reverse ++ fr_r κ c :: st) (hw : (st.map fun v => v.category).sum ≤ 8)
    (kk : ∀ z μ', P z μ' → fr_A l κ mi k Q (pc + 3) ls (fr_i z :: st) μ') : fr_A l κ mi k Q pc ls st0 μ := fr_callV hd hl hm hc hk hC hn hst hw (fun v m h => by obtain ⟨z, rfl, h⟩ := h; exact kk z m h)
theorem fr_cVQ {c : Int} {P : fr_Me → Prop} (hd : decode mi.2.1 pc = .ok (.invokevirtual idx, 3)) (hl : fr_ml mi.1.cls idx mi'.1) (hm : fr_mv mi' n) (hc : fr_rc c mi') (hk : k' + 1 ≤ k) (hC : fr_C l κ mi' k' (fr_r κ c :: as) μ (fr_Pv P)) (hn : as.length = n) (hst : st0 = as.reverse ++ fr_r κ c :: st) (hw : (st.map fun v => v.category).sum ≤ 8)
    (kk : ∀ μ', P μ' → fr_A l κ mi k Q (pc + 3) ls st μ') : fr_A l κ mi k Q pc ls st0 μ := fr_callV hd hl hm hc hk hC hn hst hw (fun v m h => by obtain ⟨rfl, h⟩ := h; exact kk m h)
theorem fr_cSi (hd : decode mi.2.1 pc = .ok (.invokestatic idx, 3)) (hl : fr_ml mi.1.cls idx mi'.1) (hm : fr_ms mi' n) (hk : k' + 1 ≤ k) (hC : fr_C l κ mi' k' as μ (fr_Ei z μ')) (hn : as.length = n) (hst : st0 = as.reverse ++ st) (hw : (st.map fun v => v.category).sum ≤ 8)
    (kk : fr_A l κ mi k Q (pc + 3) ls (fr_i z :: st) μ') : fr_A l κ mi k Q pc ls st0 μ := fr_callS hd hl hm hk hC hn hst hw (fun v m h => by obtain ⟨rfl, rfl⟩ := h; exact kk)
theorem fr_cSj (hd : decode mi.2.1 pc = .ok (.invokestatic idx, 3)) (hl : fr_ml mi.1.cls idx mi'.1) (hm : fr_ms mi' n) (hk : k' + 1 ≤ k) (hC : fr_C l κ mi' k' as μ (fr_Ej z μ')) (hn : as.length = n) (hst : st0 = as.reverse ++ st) (hw : (st.map fun v => v.category).sum ≤ 8)
    (kk : fr_A l κ mi k Q (pc + 3) ls (fr_j z :: st) μ') : fr_A l κ mi k Q pc ls st0 μ := fr_callS hd hl hm hk hC hn hst hw (fun v m h => by obtain ⟨rfl, rfl⟩ := h; exact kk)
theorem fr_cSv (hd : decode mi.2.1 pc = .ok (.invokestatic idx, 3)) (hl : fr_ml mi.1.cls idx mi'.1) (hm : fr_ms mi' n) (hk : k' + 1 ≤ k) (hC : fr_C l κ mi' k' as μ (fr_Ev μ')) (hn : as.length = n) (hst : st0 = as.reverse ++ st) (hw : (st.map fun v => v.category).sum ≤ 8)
    (kk : fr_A l κ mi k Q (pc + 3) ls st μ') : fr_A l κ mi k Q pc ls st0 μ := fr_callS hd hl hm hk hC hn hst hw (fun v m h => by obtain ⟨rfl, rfl⟩ := h; exact kk)
end CALLS2
theorem fr_down {P : Nat → Prop} (n : Nat) (hn : P n) (hs : ∀ k, k < n → P (k + 1) → P k) : P 0 := by
  have : ∀ j, j ≤ n → P (n - j) := by
    intro j
    induction j with
    | zero => intro _; exact hn
    | succ j ih =>
      intro hj
      have h1 := ih (by omega)
      have h2 := hs (n - (j + 1)) (by omega)
      rw [show n - (j + 1) + 1 = n - j by omega] at h2
      exact h2 h1
  have h := this n (Nat.le_refl n)
  rw [Nat.sub_self] at h
  exact h
