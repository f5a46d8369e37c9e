/-! THE LAYOUT: cell numbers of all objects and arrays of the class and of the reference; the memory as a function; the heap that holds it -/
abbrev fr_Me : Type := Int → Int → Int
abbrev fr_Ka : Type := va_G × (Nat → ClassId) × (Int → Nat) × Heap
abbrev fr_Mi : Type := MethodName × ByteArray × Nat × Option FieldType
abbrev fr_i (z : Int) : Value := .int (Int32.ofInt z)
abbrev fr_j (z : Int) : Value := .long (Int64.ofInt z)
abbrev fr_r (κ : fr_Ka) (c : Int) : Value := .ref (κ.2.2.1 c)
def fr_shL : List ((Nat × Nat) ⊕ Nat) := [.inr 10, .inr 1, .inl (3, 6), .inl (4, 5), .inl (0, 10), .inr 1, .inl (3, 6), .inl (4, 5), .inl (0, 10), .inr 6, .inl (0, 60), .inl (0, 6), .inl (0, 6), .inl (0, 6), .inl (5, 4), .inr 3, .inl (0, 6), .inl (0, 6), .inl (0, 6), .inl (0, 6), .inl (0, 7), .inl (0, 36), .inl (0, 6), .inl (0, 6), .inr 2, .inl (0, 224), .inl (0, 6), .inr 9, .inl (0, 10), .inl (0, 6), .inl (0, 6), .inr 8, .inl (0, 4096), .inr 4, .inl (0, 8), .inl (0, 6),
  .inr 7, .inr 7, .inr 7, .inr 7, .inr 7, .inr 7, .inr 7, .inr 7, .inr 7, .inr 7, .inr 7, .inr 7, .inr 0, .inr 0, .inr 0, .inr 0, .inr 0, .inr 0, .inr 0, .inr 0, .inr 0, .inr 0, .inr 5, .inr 5, .inr 5, .inr 5, .inl (1, 16), .inl (1, 16), .inl (1, 16), .inl (1, 16),
  .inr 11, .inl (0, 154), .inl (0, 60), .inl (0, 18), .inl (0, 6), .inl (0, 36), .inl (0, 4096), .inl (2, 4096), .inl (0, 16), .inl (0, 4), .inl (0, 4), .inl (1, 64), .inl (1, 16), .inl (0, 4824)]
def fr_sh (c : Int) : (Nat × Nat) ⊕ Nat := fr_shL.getD c.toNat (.inl (0, 0))
/-- what a field or a place of a row of references names, for good -/
def fr_rf (c : Int) (k : Nat) : Int := match c.toNat with
  | 0 => [1, 5, 0, 9, 14, 15, 24, 27, 31, 33, 35].getD k 0
  | 1 => 2 + k
  | 2 => 36 + k
  | 3 => 48 + k
  | 5 => 6 + k
  | 6 => 42 + k
  | 7 => 53 + k
  | 9 => 10 + k
  | 14 => 58 + k
  | 15 => 16 + k
  | 24 => [15, 25, 26].getD k 0
  | 27 => [15, 28, 29, 30].getD k 0
  | 31 => [15, 32].getD k 0
  | 33 => [1, 34].getD k 0
  | 66 => [67, 0, 68, 0, 0, 0, 69, 70, 71, 0, 72, 73, 74, 75, 76, 77, 78, 79].getD k 0
  | n => n + 4
def fr_isR (ci k : Nat) : Bool := match ci with
  | 0 => false
  | 1 => k < 3
  | 2 => k < 3
  | 3 => k < 8
  | 4 => k < 2
  | 5 => k < 1
  | 6 => k < 4
  | 7 => false
  | 8 => k < 2
  | 9 => k < 4
  | 10 => !(k == 2)
  | _ => k == 0 || k == 2 || k == 6 || k == 7 || k == 8 || 9 < k
def fr_nf (ci : Nat) : Nat := [4, 8, 7, 11, 5, 4, 6, 7, 3, 6, 11, 18].getD ci 0
def fr_fv (κ : fr_Ka) (μ : fr_Me) (c : Int) (ci k : Nat) : Value := if fr_isR ci k = true then fr_r κ (fr_rf c k) else fr_i (μ c k)
def fr_ar (κ : fr_Ka) (μ : fr_Me) (c : Int) (a : Nat) : (Nat → Int32) ⊕ (Nat → Int64) ⊕ (Nat → UInt32) ⊕ (Nat → UInt64) ⊕ (Nat → Option Nat) := match a with
  | 0 => .inl (fun k => Int32.ofInt (μ c k))
  | 1 => .inr (.inl (fun k => Int64.ofInt (μ c k)))
  | 2 => .inl (fun k => Int32.ofInt (μ c k))
  | _ => .inr (.inr (.inr (.inr (fun k => some (κ.2.2.1 (fr_rf c k))))))
def fr_ct (κ : fr_Ka) (μ : fr_Me) (c : Int) : va_E := match fr_sh c with
  | .inl (a, n) => .inl (κ.2.1 a, n, fr_ar κ μ c a)
  | .inr ci => .inr (ci, (List.range (fr_nf ci)).map (fr_fv κ μ c ci))
def fr_wl (κ : fr_Ka) (μ : fr_Me) : va_W := (List.range 80).map (fun c : Nat => (κ.2.2.1 (c : Int), fr_ct κ μ (c : Int)))
def fr_tys (κ : fr_Ka) : List (ClassId × FieldType) := [(κ.2.1 0, .int), (κ.2.1 1, .long), (κ.2.1 2, .boolean), (κ.2.1 3, .object RX7), (κ.2.1 4, .object RX0), (κ.2.1 5, .object RX5)]
def fr_nest : Cond → Bool
  | .fieldLinkNest _ _ _ _ _ _ => true
  | .methodLinkNest _ _ _ _ => true
  | _ => false
def fr_tb : List Cond := lw_tbl.filter goodWord
def fr_nw : List Cond := lw_tbl.filter fr_nest
def fr_up (μ : fr_Me) (c k z : Int) : fr_Me := fun c' k' => if c' = c ∧ k' = k then z else μ c' k'
def fr_Ok (κ : fr_Ka) : Prop := (∀ i j : Nat, i < 80 → j < 80 → κ.2.2.1 i = κ.2.2.1 j → i = j) ∧ ∀ i : Nat, i < 80 → κ.2.2.2.size ≤ κ.2.2.1 i
def fr_In (κ : fr_Ka) (μ : fr_Me) (H : Heap) : Prop := fr_Ok κ ∧ va_P κ.1 vwCl (fr_wl κ μ) H ∧ κ.2.2.2.size ≤ H.size ∧ ∀ q : Nat, q < κ.2.2.2.size → H[q]? = κ.2.2.2[q]?
abbrev fr_fA (κ : fr_Ka) : Nat → Prop := fun q => κ.2.2.2.size ≤ q
/-- the text "PGDS" and its row of bytes lie in the old heap, at the places 80 and 81 of the layout -/
def fr_Sv (κ : fr_Ka) (U : State) : Prop := vk_R RX6 39 "PGDS" (κ.2.2.1 80) U ∧ va_O "java/lang/String" (κ.2.2.1 80) (fr_fA κ) U κ.2.2.2 ∧ va_OF "java/lang/String" "coder" "B" (.int 0) (κ.2.2.1 80) (fr_fA κ) U κ.2.2.2 ∧ va_OF "java/lang/String" "value" "[B" (.ref (κ.2.2.1 81)) (κ.2.2.1 80) (fr_fA κ) U κ.2.2.2 ∧ va_T .byte (κ.2.2.1 81) 4 (fun j => .int (([80, 71, 68, 83] : List Int32).getD j 0)) (fr_fA κ) U κ.2.2.2 ∧ va_Z "java/lang/String" "COMPACT_STRINGS" "Z" (.int 1) (fr_fA κ) U κ.2.2.2
theorem fr_Sv.move {κ : fr_Ka} {s U : State} (hW : s.vm.Alike U.vm) (h : fr_Sv κ s) (hR : vk_R RX6 39 "PGDS" (κ.2.2.1 80) U) : fr_Sv κ U := ⟨hR, va_O.moved hW h.2.1, va_OF.moved hW h.2.2.1, va_OF.moved hW h.2.2.2.1, va_T.moved hW h.2.2.2.2.1, va_Z.moved hW h.2.2.2.2.2⟩
def fr_Vm (κ : fr_Ka) (U : State) : Prop := va_K κ.1 vwCl (fr_tys κ) U ∧ (∀ w ∈ fr_nw, va_Nw w U) ∧ fr_Sv κ U
def fr_ws (mi : fr_Mi) : List Cond := .code mi.1 mi.2.1 mi.2.2.1 mi.2.2.2 :: fr_tb
def fr_rm (k : Nat) : Room := { frames := k, cells := 0, slots := 0, locals := 64 * k }
def fr_Pc (κ : fr_Ka) (as : List Value) (μ : fr_Me) : Array Value → State → Prop := fun a U => a = as.toArray ∧ fr_In κ μ U.heap ∧ fr_Vm κ U
def fr_Qc (κ : fr_Ka) (Q : Option Value → fr_Me → Prop) : Array Value → State → Outcome → State → Prop := fun _ _ o t => ∃ v μ', o = .returned v ∧ Q v μ' ∧ fr_In κ μ' t.heap
/-- THE CONTRACT of a method: with these arguments, in this memory, with room k, it returns, and Q holds of its answer and of the memory then -/
def fr_C (l : Launch) (κ : fr_Ka) (mi : fr_Mi) (k : Nat) (as : List Value) (μ : fr_Me) (Q : Option Value → fr_Me → Prop) : Prop :=
  Met l mi.1 (fr_ws mi) (fr_rm k) (fr_Pc κ as μ) (fr_Qc κ Q) 0 0 (fr_fA κ)
def fr_F (κ : fr_Ka) (mi : fr_Mi) (p : Program) (s : State) (m : MethodId) (args : Array Value) (meth : Method) (c : Code) : Prop :=
  p.tables.exec = Jvm.exec ∧ c.code = mi.2.1 ∧ meth.sig.returnType = mi.2.2.2 ∧ c.maxLocals = mi.2.2.1 ∧ s.vm.findClass mi.1.cls = some m.cls ∧ (∀ w ∈ fr_tb, w.before args s = true) ∧ meth.locks = false ∧ fr_Vm κ s
def fr_lh (lsA : Array Slot) (n : Nat) (ls : List (Option Value)) : Prop := lsA.size = n ∧ lv_wf lsA ∧ ∀ (i : Nat) (v : Value), ls[i]? = some (some v) → lsA[i]? = some (.val v)
/-- THE WALK: at pc, with these locals, this stack, this memory, the method comes to its end with Q -/
def fr_A (l : Launch) (κ : fr_Ka) (mi : fr_Mi) (k : Nat) (Q : Option Value → fr_Me → Prop) (pc : Nat) (ls : List (Option Value)) (st : List Value) (μ : fr_Me) : Prop :=
  ∀ (p : Program) (e : Env) (s : State) (m : MethodId) (args : Array Value) (below : List Frame) (meth : Method) (c : Code), fr_F κ mi p s m args meth c →
  ∀ (H : Heap) (locs : List Loc) (lsA : Array Slot), fr_In κ μ H → (∀ q ∈ locs, fr_fA κ q.base) → fr_lh lsA mi.2.2.1 ls →
  W p l e (fr_rm k) s m args below meth c H locs 0 0 (MQ below (fr_Qc κ Q) args s 0 0 (fr_fA κ)) (F0 m pc lsA st)
theorem fr_shlen : fr_shL.length = 80 := by decide +kernel
theorem fr_wl_at (κ : fr_Ka) (μ : fr_Me) {c : Int} (h0 : 0 ≤ c) (h1 : c < 80) : (fr_wl κ μ)[c.toNat]? = some (κ.2.2.1 c, fr_ct κ μ c) := by
  have hc : ((c.toNat : Nat) : Int) = c := Int.toNat_of_nonneg h0
  have hl : c.toNat < 80 := by omega
  simp only [fr_wl, List.getElem?_map, List.getElem?_range hl, Option.map_some, hc]
theorem fr_wD {κ : fr_Ka} (h : fr_Ok κ) (μ : fr_Me) : va_D (fr_fA κ) (fr_wl κ μ) := by
  have key : ∀ (i : Nat) (p : Nat × va_E), (fr_wl κ μ)[i]? = some p → i < 80 ∧ p.1 = κ.2.2.1 i := by
    intro i p hp
    have hl : i < 80 := by
      have := (List.getElem?_eq_some_iff.mp hp).1
      simpa [fr_wl] using this
    simp only [fr_wl, List.getElem?_map, List.getElem?_range hl, Option.map_some] at hp
    cases hp
    exact ⟨hl, rfl⟩
  refine ⟨fun i j p q hp hq he => ?_, fun i q hq => ?_⟩
  · obtain ⟨a1, a2⟩ := key i p hp
    obtain ⟨b1, b2⟩ := key j q hq
    exact h.1 i j a1 b1 (by rw [← a2, ← b2, he])
  · obtain ⟨a1, a2⟩ := key i q hq
    show κ.2.2.2.size ≤ q.1
    rw [a2]
    exact h.2 i a1
theorem fr_In.S {κ : fr_Ka} {μ : fr_Me} {H : Heap} {locs : List Loc} (h : fr_In κ μ H) (hl : ∀ q ∈ locs, fr_fA κ q.base) : va_S (fr_fA κ) κ.2.2.2 H locs :=
  ⟨h.2.2.1, fun q h1 _ => h.2.2.2 q h1, hl⟩
theorem fr_In.of {κ : fr_Ka} {μ : fr_Me} {H : Heap} {locs : List Loc} (ho : fr_Ok κ) (hP : va_P κ.1 vwCl (fr_wl κ μ) H) (hS : va_S (fr_fA κ) κ.2.2.2 H locs) : fr_In κ μ H ∧ ∀ q ∈ locs, fr_fA κ q.base :=
  ⟨⟨ho, hP, hS.1, fun q h1 => hS.2.1 q h1 (Nat.not_le.mpr h1)⟩, hS.2.2⟩
theorem fr_nest_spec {w : Cond} (h : fr_nest w = true) : (∃ a i b n d o, w = .fieldLinkNest a i b n d o) ∨ ∃ a i x o, w = .methodLinkNest a i x o := by
  cases w <;> first | exact Or.inl ⟨_, _, _, _, _, _, rfl⟩ | exact Or.inr ⟨_, _, _, _, rfl⟩ | cases h
theorem fr_Vm.warm {κ : fr_Ka} {s U : State} (hW : s.WarmedH U.vm) (h : fr_Vm κ s) : fr_Vm κ U := by
  refine ⟨va_K.moved hW.alike h.1, fun w hw => ?_, fr_Sv.move hW.alike h.2.2 (vk_R.warm hW h.2.2.1)⟩
  have hn := (List.mem_filter.mp hw).2
  have h1 := h.2.1 w hw
  rcases fr_nest_spec hn with ⟨a, i, b, n, d, o, rfl⟩ | ⟨a, i, x, o, rfl⟩
  · exact va_Nw.warmF hW h1
  · exact va_Nw.warmM hW h1
theorem fr_Pc.blind (κ : fr_Ka) (as : List Value) (μ : fr_Me) : FrameBlind (fr_Pc κ as μ) := by
  intro a U g mk q
  obtain ⟨q0, q1, q2, q3, q4⟩ := q
  refine ⟨q0, q1, va_K.moved (u := U) (U := U.calling g mk a) (Vm.Alike.refl U.vm) q2, fun w hw => ?_, fr_Sv.move (s := U) (U := U.calling g mk a) (Vm.Alike.refl U.vm) q4 (vk_R.same (u := U) (U := U.calling g mk a) rfl q4.1)⟩
  have hn := (List.mem_filter.mp hw).2
  refine va_Nw.same ?_ (rfl : U.vm = (U.calling g mk a).vm) (q3 w hw)
  rcases fr_nest_spec hn with ⟨a, i, b, n, d, o, rfl⟩ | ⟨a, i, x, o, rfl⟩ <;> rfl
theorem fr_good (mi mi' : fr_Mi) (h : Cond.code mi'.1 mi'.2.1 mi'.2.2.1 mi'.2.2.2 ∈ fr_tb) : GoodIn fr_tb (fr_ws mi') := by
  intro w hw
  have hm : w ∈ fr_tb := by
    rcases List.mem_cons.mp hw with rfl | h1
    · exact h
    · exact h1
  exact ⟨hm, good_of_word (List.mem_filter.mp hm).2⟩
