/-! the law: its walk -/
def R_law : String := "ClimbedFruitLaw"
def lw_P (b : Addr) (xs : List Int32) (args : Array Value) (s : State) : Prop := args = #[.ref b] ∧ s.IntsAt b xs ∧ xs.length ≤ 384 ∧ (Jvm.Cond.and given_1 narrow_1).before args s = true
def lw_Q (_ : Array Value) (s : State) (o : Outcome) (t : State) : Prop := o = .returned (some (.int 1)) ∧ Framed s o t [] 600000 7302250
def lw_Z (below : List Frame) (a : Array Value) (s : State) : State → Prop := fun t => ∃ o, t.status = .running ∧ Ended t below o ∧ lw_Q a s o t
/-- the law's own end, with 1 on the stack, nothing written that was there before, its room as the claim has it -/
theorem lw_ret {p : Program} {l : Launch} {e : Env} {s : State} {m : MethodId} {below : List Frame} {meth : Method} {c : Code} {b : Nat} (hx : p.tables.exec = Jvm.exec) (hb : c.code = code) (hr : meth.sig.returnType = ret) (hlocks : meth.locks = false) {pc : Nat} {H : Heap} {ls : Array Slot} (hdg : decode code pc = .ok (.ireturn, 1)) : W p l e room_1 s m #[Value.ref b] below meth c H [] 600000 7302250 (lw_Z below #[Value.ref b] s) (F0 m pc ls [.int 1]) := by
  intro T hT X
  obtain ⟨fs, hret, hrun, hended, hW, hframe⟩ := X.leave (v := some (.int 1)) (hlocks := hlocks) (fun h => by rw [hr] at h; cases h)
  have hmeth' : T.vm.method? m = some meth := X.method'
  refine ⟨T.setFrames fs, ?_, .returned (some (.int 1)), hrun, hended, rfl, ⟨_, rfl⟩, hW, hframe⟩
  jvm_step X.here [X.here.top, hx, hb, hdg, hmeth', hr, ret, narrow_b1]
  (try refine ⟨rfl, ?_⟩); (try refine ⟨rfl, ?_⟩)
  first | (intro acts; rw [hret _ acts rfl rfl rfl]) | rw [hret _ _ rfl rfl rfl]
  exact Steps.refl _
/-- what holds at the law's entry: the machine, the code, the tables' words (any of lw_tbl by 'hts w (by decide +kernel)'), the script of L ints xs at the cell b, what the Statement gives of the start (any of its parts by flat_of_before) -/
def lw_At (p : Program) (s : State) (m : MethodId) (meth : Method) (c : Code) (b L : Nat) (xs : Nat → Int32) : Prop :=
  p.tables.exec = Jvm.exec ∧ c.code = code ∧ meth.sig.returnType = ret ∧ c.maxLocals = 4 ∧ s.vm.findClass R_law = some m.cls ∧ (∀ w ∈ lw_tbl, w.before #[Value.ref b] s = true) ∧ va_X b L xs s s.heap ∧ b < s.heap.size ∧ meth.locks = false ∧ (Jvm.Cond.and given_1 narrow_1).before #[Value.ref b] s = true
def fm_law : fr_Mi := (yL_law, cL_law, 4, some .boolean)
/-- the law's walk behind the making of both objects: x at 0, the reference at 66 -/
def fr_L (l : Launch) (κ : fr_Ka) (b L : Nat) (xs : Nat → Int32) (pc : Nat) (ls : List (Option Value)) (st : List Value) (μ : fr_Me) : Prop :=
  ∀ (p : Program) (e : Env) (s : State) (m : MethodId) (below : List Frame) (meth : Method) (c : Code), fr_F κ fm_law p s m #[Value.ref b] meth c → (κ.2.2.2 = s.heap ∧ va_X b L xs s s.heap ∧ b < s.heap.size) →
  ∀ (H : Heap) (locs : List Loc) (lsA : Array Slot), fr_In κ μ H → (∀ q ∈ locs, fr_fA κ q.base) → fr_lh lsA 4 ls →
  W p l e room_1 s m #[Value.ref b] below meth c H locs 600000 7302250 (lw_Z below #[Value.ref b] s) (F0 m pc lsA st)
/-- the script's ints -/
def sx (xs : Nat → Int32) (z : Int) : Int := (xs z.toNat).toInt
theorem sxr (xs : Nat → Int32) (z : Int) : -2147483648 ≤ sx xs z ∧ sx xs z ≤ 2147483647 := by
  have h1 := (xs z.toNat).minValue_le_toInt
  have h2 := (xs z.toNat).toInt_le
  unfold sx
  exact ⟨h1, h2⟩
section LAW
variable {l : Launch} {κ : fr_Ka} {b L : Nat} {xs : Nat → Int32} {pc idx : Nat} {ls r : List (Option Value)} {st : List Value} {μ : fr_Me}
theorem lx_al0 {z : Nat} (hd : decode fm_law.2.1 pc = .ok (.aload_n 0, 1)) (kk : fr_L l κ b L xs (pc + 1) (some (Value.ref z) :: r) (Value.ref z :: st) μ) : fr_L l κ b L xs pc (some (Value.ref z) :: r) st μ := by
  intro p e s m below meth c hF hX H locs lsA hI hL hl
  exact lv_aload_n hF.1 hF.2.1 hd rfl (hl.2.2 0 _ rfl) (kk p e s m below meth c hF hX H locs lsA hI hL hl)
theorem lx_al1 {x0 : Option Value} {z : Nat} (hd : decode fm_law.2.1 pc = .ok (.aload_n 1, 1)) (kk : fr_L l κ b L xs (pc + 1) (x0 :: some (Value.ref z) :: r) (Value.ref z :: st) μ) : fr_L l κ b L xs pc (x0 :: some (Value.ref z) :: r) st μ := by
  intro p e s m below meth c hF hX H locs lsA hI hL hl
  exact lv_aload_n hF.1 hF.2.1 hd rfl (hl.2.2 1 _ rfl) (kk p e s m below meth c hF hX H locs lsA hI hL hl)
theorem lx_al2 {x0 x1 : Option Value} {z : Nat} (hd : decode fm_law.2.1 pc = .ok (.aload_n 2, 1)) (kk : fr_L l κ b L xs (pc + 1) (x0 :: x1 :: some (Value.ref z) :: r) (Value.ref z :: st) μ) : fr_L l κ b L xs pc (x0 :: x1 :: some (Value.ref z) :: r) st μ := by
  intro p e s m below meth c hF hX H locs lsA hI hL hl
  exact lv_aload_n hF.1 hF.2.1 hd rfl (hl.2.2 2 _ rfl) (kk p e s m below meth c hF hX H locs lsA hI hL hl)
theorem lx_il3 {x0 x1 x2 : Option Value} {z : Int} (hd : decode fm_law.2.1 pc = .ok (.iload_n 3, 1)) (kk : fr_L l κ b L xs (pc + 1) (x0 :: x1 :: x2 :: some (fr_i z) :: r) (fr_i z :: st) μ) : fr_L l κ b L xs pc (x0 :: x1 :: x2 :: some (fr_i z) :: r) st μ := by
  intro p e s m below meth c hF hX H locs lsA hI hL hl
  exact lv_iload_n hF.1 hF.2.1 hd rfl (hl.2.2 3 _ rfl) (kk p e s m below meth c hF hX H locs lsA hI hL hl)
theorem lx_is3 {x0 x1 x2 : Option Value} {y : Option Value} {z : Int} (hd : decode fm_law.2.1 pc = .ok (.istore_n 3, 1)) (hc : fr_c1 x2 = true) (hn : 3 < fm_law.2.2.1) (kk : fr_L l κ b L xs (pc + 1) (x0 :: x1 :: x2 :: some (fr_i z) :: r) st μ) : fr_L l κ b L xs pc (x0 :: x1 :: x2 :: y :: r) (fr_i z :: st) μ := by
  intro p e s m below meth c hF hX H locs lsA hI hL hl
  exact lv_istore_n hF.1 hF.2.1 hd rfl hl.has hn rfl (fun lsB hB => kk p e s m below meth c hF hX H locs lsB hI hL (hl.set1 (by simp) (fr_hp (i := 2) (y := x2) rfl hc) hB))
theorem lx_ii3 {x0 x1 x2 : Option Value} {z n : Int} (hd : decode fm_law.2.1 pc = .ok (.iinc 3 n, 3)) (hc : fr_c1 x2 = true) (hn : 3 < fm_law.2.2.1) (kk : fr_L l κ b L xs (pc + 3) (x0 :: x1 :: x2 :: some (fr_i (z + n)) :: r) st μ) : fr_L l κ b L xs pc (x0 :: x1 :: x2 :: some (fr_i z) :: r) st μ := by
  intro p e s m below meth c hF hX H locs lsA hI hL hl
  have hm : ((3, fr_i z) : Nat × Value) ∈ fr_as fm_law.2.2.1 (x0 :: x1 :: x2 :: some (fr_i z) :: r) := fr_as_mem.mpr ⟨hn, rfl⟩
  obtain ⟨j, hj⟩ := List.getElem?_of_mem hm
  exact lv_iinc hF.1 hF.2.1 hd hl.has hj (Int32.ofInt_add z n).symm hn rfl (fun lsB hB => kk p e s m below meth c hF hX H locs lsB hI hL (hl.set1 (by simp) (fr_hp (i := 2) (y := x2) rfl hc) hB))
theorem lx_iconst {n : Int} (hd : decode fm_law.2.1 pc = .ok (.iconst n, 1)) (kk : fr_L l κ b L xs (pc + 1) ls (fr_i n :: st) μ) : fr_L l κ b L xs pc ls st μ := by
  intro p e s m below meth c hF hX H locs lsA hI hL hl
  exact lv_iconst hF.1 hF.2.1 hd rfl (kk p e s m below meth c hF hX H locs lsA hI hL hl)
theorem lx_bipush {n : Int} (hd : decode fm_law.2.1 pc = .ok (.bipush n, 2)) (hv : (Int8.ofInt n).toInt32 = Int32.ofInt n) (kk : fr_L l κ b L xs (pc + 2) ls (fr_i n :: st) μ) : fr_L l κ b L xs pc ls st μ := by
  intro p e s m below meth c hF hX H locs lsA hI hL hl
  exact lv_bipush hF.1 hF.2.1 hd hv (kk p e s m below meth c hF hX H locs lsA hI hL hl)
theorem lx_isub {a b2 : Int} (hd : decode fm_law.2.1 pc = .ok (.isub, 1)) (kk : fr_L l κ b L xs (pc + 1) ls (fr_i (a - b2) :: st) μ) : fr_L l κ b L xs pc ls (fr_i b2 :: fr_i a :: st) μ := by
  intro p e s m below meth c hF hX H locs lsA hI hL hl
  refine lv_isub hF.1 hF.2.1 hd ?_
  have K := kk p e s m below meth c hF hX H locs lsA hI hL hl
  rw [fr_i, Int32.ofInt_sub] at K; exact K
theorem lx_iadd {a b2 : Int} (hd : decode fm_law.2.1 pc = .ok (.iadd, 1)) (kk : fr_L l κ b L xs (pc + 1) ls (fr_i (a + b2) :: st) μ) : fr_L l κ b L xs pc ls (fr_i b2 :: fr_i a :: st) μ := by
  intro p e s m below meth c hF hX H locs lsA hI hL hl
  refine lv_iadd hF.1 hF.2.1 hd ?_
  have K := kk p e s m below meth c hF hX H locs lsA hI hL hl
  rw [fr_i, Int32.ofInt_add] at K; exact K
theorem lx_icmp_gt {a b2 : Int} {off : Int} {tgt : Nat} (hd : decode fm_law.2.1 pc = .ok (.if_icmp .gt off, 3)) (ht : (pc : Int) + off = (tgt : Int)) (ha : -2147483648 ≤ a ∧ a ≤ 2147483647) (hb : -2147483648 ≤ b2 ∧ b2 ≤ 2147483647) (kt : b2 < a → fr_L l κ b L xs tgt ls st μ) (kf : a ≤ b2 → fr_L l κ b L xs (pc + 3) ls st μ) : fr_L l κ b L xs pc ls (fr_i b2 :: fr_i a :: st) μ := by
  intro p e s m below meth c hF hX H locs lsA hI hL hl
  exact lv_icmp_gt hF.1 hF.2.1 hd ht (fun h => kt ((fun h => (fr_lt_iff hb ha).mp h) h) p e s m below meth c hF hX H locs lsA hI hL hl) (fun h => kf ((fun h => Int.not_lt.mp fun e => h ((fr_lt_iff hb ha).mpr e)) h) p e s m below meth c hF hX H locs lsA hI hL hl)
theorem lx_tswIn {a : Int} {dflt lo hi off : Int} {offs : Array Int} {len tgt : Nat} (hd : decode fm_law.2.1 pc = .ok (.tableswitch dflt lo hi offs, len)) (ha : -2147483648 ≤ a ∧ a ≤ 2147483647) (h1 : lo ≤ a) (h2 : a ≤ hi) (ho : offs[(a - lo).toNat]? = some off) (ht : (pc : Int) + off = (tgt : Int)) (kk : fr_L l κ b L xs tgt ls st μ) : fr_L l κ b L xs pc ls (fr_i a :: st) μ := by
  intro p e s m below meth c hF hX H locs lsA hI hL hl
  exact lv_tableIn hF.1 hF.2.1 hd (by rw [fr_ofle ha]; omega) (by rw [fr_ofle ha]; omega) (by rw [fr_ofle ha]; exact ho) ht (kk p e s m below meth c hF hX H locs lsA hI hL hl)
theorem lx_tswOut {a : Int} {dflt lo hi : Int} {offs : Array Int} {len tgt : Nat} (hd : decode fm_law.2.1 pc = .ok (.tableswitch dflt lo hi offs, len)) (ha : -2147483648 ≤ a ∧ a ≤ 2147483647) (h : a < lo ∨ hi < a) (ht : (pc : Int) + dflt = (tgt : Int)) (kk : fr_L l κ b L xs tgt ls st μ) : fr_L l κ b L xs pc ls (fr_i a :: st) μ := by
  intro p e s m below meth c hF hX H locs lsA hI hL hl
  exact lv_tableOut hF.1 hF.2.1 hd (by rw [fr_ofle ha]; exact h) ht (kk p e s m below meth c hF hX H locs lsA hI hL hl)
theorem lx_goto {off : Int} {tgt : Nat} (hd : decode fm_law.2.1 pc = .ok (.goto off, 3)) (ht : (pc : Int) + off = (tgt : Int)) (kk : fr_L l κ b L xs tgt ls st μ) : fr_L l κ b L xs pc ls st μ := by
  intro p e s m below meth c hF hX H locs lsA hI hL hl
  exact lv_goto hF.1 hF.2.1 hd ht (kk p e s m below meth c hF hX H locs lsA hI hL hl)
theorem lx_i2l {a : Int} (hd : decode fm_law.2.1 pc = .ok (.i2l, 1)) (ha : -2147483648 ≤ a ∧ a ≤ 2147483647) (kk : fr_L l κ b L xs (pc + 1) ls (fr_j a :: st) μ) : fr_L l κ b L xs pc ls (fr_i a :: st) μ := by
  intro p e s m below meth c hF hX H locs lsA hI hL hl
  refine lv_i2l (v := Int64.ofInt a) hF.1 hF.2.1 hd ?_ (kk p e s m below meth c hF hX H locs lsA hI hL hl)
  rw [← Int64.toInt_inj, Int32.toInt_toInt64, fr_ofle ha, fr_oflj (by omega)]
theorem lx_lshlR {a b2 : Int} (hd : decode fm_law.2.1 pc = .ok (.lshl, 1)) (kk : fr_L l κ b L xs (pc + 1) ls (fr_j (fr_lshl a b2) :: st) μ) : fr_L l κ b L xs pc ls (fr_i b2 :: fr_j a :: st) μ := by
  intro p e s m below meth c hF hX H locs lsA hI hL hl
  refine lv_lshl hF.1 hF.2.1 hd rfl ?_
  have K := kk p e s m below meth c hF hX H locs lsA hI hL hl
  rw [fr_j, fr_lshl, Int64.ofInt_toInt] at K; exact K
theorem lx_landR {a b2 : Int} (hd : decode fm_law.2.1 pc = .ok (.land, 1)) (kk : fr_L l κ b L xs (pc + 1) ls (fr_j (fr_land a b2) :: st) μ) : fr_L l κ b L xs pc ls (fr_j b2 :: fr_j a :: st) μ := by
  intro p e s m below meth c hF hX H locs lsA hI hL hl
  refine lv_land hF.1 hF.2.1 hd ?_
  have K := kk p e s m below meth c hF hX H locs lsA hI hL hl
  rw [fr_j, fr_land, Int64.ofInt_toInt] at K; exact K
theorem lx_lorR {a b2 : Int} (hd : decode fm_law.2.1 pc = .ok (.lor, 1)) (kk : fr_L l κ b L xs (pc + 1) ls (fr_j (fr_lor a b2) :: st) μ) : fr_L l κ b L xs pc ls (fr_j b2 :: fr_j a :: st) μ := by
  intro p e s m below meth c hF hX H locs lsA hI hL hl
  refine lv_lor hF.1 hF.2.1 hd ?_
  have K := kk p e s m below meth c hF hX H locs lsA hI hL hl
  rw [fr_j, fr_lor, Int64.ofInt_toInt] at K; exact K
theorem lx_ldc2 {idx : Nat} {z : Int} (hd : decode fm_law.2.1 pc = .ok (.ldc2_w idx, 3)) (hc : fr_cl fm_law.1.cls idx z) (kk : fr_L l κ b L xs (pc + 3) ls (fr_j z :: st) μ) : fr_L l κ b L xs pc ls st μ := by
  intro p e s m below meth c hF hX H locs lsA hI hL hl
  exact lv_ldc2 hF.1 hF.2.1 hF.2.2.2.2.1 (hF.2.2.2.2.2.1 _ hc) hd (kk p e s m below meth c hF hX H locs lsA hI hL hl)
theorem lx_iand {a b2 : Int} (hd : decode fm_law.2.1 pc = .ok (.iand, 1)) (kk : fr_L l κ b L xs (pc + 1) ls (fr_i (fr_and a b2) :: st) μ) : fr_L l κ b L xs pc ls (fr_i b2 :: fr_i a :: st) μ := by
  intro p e s m below meth c hF hX H locs lsA hI hL hl
  refine lv_iand hF.1 hF.2.1 hd ?_
  have K := kk p e s m below meth c hF hX H locs lsA hI hL hl
  rw [fr_i, fr_and, Int32.ofInt_toInt] at K; exact K
theorem lx_wk {ls' : List (Option Value)} (a : fr_L l κ b L xs pc ls st μ) (h : fr_le ls ls') : fr_L l κ b L xs pc ls' st μ := by
  intro p e s m below meth c hF hX H locs lsA hI hL hl
  exact a p e s m below meth c hF hX H locs lsA hI hL ⟨hl.1, hl.2.1, fun i v hv => hl.2.2 i v (fr_le_at ls ls' h i v hv)⟩
theorem lx_old {H : Heap} {s : State} (hI : fr_In κ μ H) (hX : κ.2.2.2 = s.heap ∧ va_X b L xs s s.heap ∧ b < s.heap.size) : ∃ cell, H[b]? = some cell ∧ s.isArrayOf cell .int ∧ cell.vm ≠ .unknown ∧ cell.slots.size = L ∧ ∀ j : Nat, j < L → cell.slots[j]? = some (.int (xs j)) := by
  obtain ⟨cell, h1, h2, h3, h4, h5⟩ := hX.2.1
  exact ⟨cell, by rw [hI.2.2.2 b (by rw [hX.1]; exact hX.2.2), hX.1]; exact h1, h2, h3, h4, h5⟩
theorem lx_len (hd : decode fm_law.2.1 pc = .ok (.arraylength, 1)) (kk : fr_L l κ b L xs (pc + 1) ls (fr_i (L : Int) :: st) μ) : fr_L l κ b L xs pc ls (Value.ref b :: st) μ := by
  intro p e s m below meth c hF hX H locs lsA hI hL hl
  have K := kk p e s m below meth c hF hX H locs lsA hI hL hl
  obtain ⟨cell, h1, h2, h3, h4, h5⟩ := lx_old hI hX
  exact W.alen (n := Int32.ofInt (L : Int)) hF.1 hF.2.1 h1 h2 (by rw [h4]; exact (Int32.ofInt_eq_ofNat (n := L)).symm) rfl rfl hd K
theorem lx_at {z : Int} (hd : decode fm_law.2.1 pc = .ok (.iaload, 1)) (h0 : 0 ≤ z) (h1 : z < L) (hL3 : L ≤ 384) (kk : fr_L l κ b L xs (pc + 1) ls (fr_i (sx xs z) :: st) μ) : fr_L l κ b L xs pc ls (fr_i z :: Value.ref b :: st) μ := by
  intro p e s m below meth c hF hX H locs lsA hI hL hl
  have K := kk p e s m below meth c hF hX H locs lsA hI hL hl
  obtain ⟨cell, g1, g2, g3, g4, g5⟩ := lx_old hI hX
  have ez : (Int32.ofInt z).toInt = z := fr_ofle (by omega)
  have hn : (Int32.ofInt z).toNatClampNeg = z.toNat := by
    show (Int32.ofInt z).toInt.toNat = _
    rw [ez]
  have e2 : fr_i (sx xs z) = .int (xs z.toNat) := by
    unfold sx
    show Value.int (Int32.ofInt (xs z.toNat).toInt) = _
    rw [Int32.ofInt_toInt]
  rw [e2] at K
  refine W.iald (v := .int (xs z.toNat)) hF.1 hF.2.1 g1 g2 g3 (fun q => ?_) ?_ rfl rfl hd K
  · rcases q with q | q
    · have := Int32.lt_iff_toInt_lt.mp q
      rw [ez] at this
      have e0 : (0 : Int32).toInt = 0 := by decide
      omega
    · rw [hn, g4] at q; omega
  · rw [hn]; exact g5 _ (by omega)
theorem lx_cmp {a a' off : Int} {tgt : Nat} (hd : decode fm_law.2.1 pc = .ok (.if_icmp .eq off, 3)) (ht : (pc : Int) + off = (tgt : Int)) (e : a = a') (kt : fr_L l κ b L xs tgt ls st μ) : fr_L l κ b L xs pc ls (fr_i a' :: fr_i a :: st) μ := by
  subst e
  intro p e s m below meth c hF hX H locs lsA hI hL hl
  exact lv_icmp_eq hF.1 hF.2.1 hd ht (fun _ => kt p e s m below meth c hF hX H locs lsA hI hL hl) (fun h => absurd rfl h)
theorem lx_ret (hd : decode fm_law.2.1 pc = .ok (.ireturn, 1)) : fr_L l κ b L xs pc ls [fr_i 1] μ := by
  intro p e s m below meth c hF hX H locs lsA hI hL hl
  have K := lw_ret (p := p) (l := l) (e := e) (s := s) (m := m) (below := below) (meth := meth) (c := c) (b := b) hF.1 hF.2.1 hF.2.2.1 hF.2.2.2.2.2.2.1 (pc := pc) (H := H) (ls := lsA) hd
  have := W.forget (L := locs) (locs := []) (fun q hq => by have := hL q hq; show s.heap.size ≤ _; rw [← hX.1]; exact this) K
  rw [List.nil_append] at this
  exact this
theorem lx_callR {Q' : Option Value → fr_Me → Prop} {st0 : List Value} {p : Program} {e : Env} {s : State} {m : MethodId} {args : Array Value} {below : List Frame} {meth : Method} {c : Code} {H : Heap} {locs : List Loc} {lsA : Array Slot} {a : Array Value}
    (hr : va_Run p l e room_1 s m args below meth c H locs 600000 7302250 0 0 (F0 m pc lsA st0) st (fr_Qc κ Q' a) (fr_fA κ)) (hL : ∀ q ∈ locs, fr_fA κ q.base) {Z : State → Prop}
    (kk : ∀ (v : Option Value) (μ' : fr_Me), Q' v μ' → ∀ (H1 : Heap) (locs1 : List Loc), fr_In κ μ' H1 → (∀ q ∈ locs1, fr_fA κ q.base) → W p l e room_1 s m args below meth c H1 locs1 600000 7302250 Z (F0 m (pc + 3) lsA (v.toList ++ st))) : W p l e room_1 s m args below meth c H locs 600000 7302250 Z (F0 m pc lsA st0) := by
  intro T hT X
  obtain ⟨v, st₀, t, T', L, h0, X', hL2, e1, e2, ⟨v2, μ', hv, hq, hI⟩, stp⟩ := hr T hT X
  cases hv
  obtain ⟨t2, a1, b1⟩ := kk v μ' hq T'.heap (locs ++ L) (by rw [e1]; exact hI) (fun q h => by
    rcases List.mem_append.mp h with h | h
    · exact hL q h
    · exact hL2 q h) T' rfl X'
  exact ⟨t2, stp t2 a1, b1⟩
theorem lx_call {mi' : fr_Mi} {n k' : Nat} {Q' : Option Value → fr_Me → Prop} {st0 as : List Value} {cc : Int} (hd : decode fm_law.2.1 pc = .ok (.invokevirtual idx, 3)) (hl : fr_ml fm_law.1.cls idx mi'.1) (hm : fr_mv mi' n) (hc : fr_rc cc mi') (hk : k' ≤ 100) (hml : mi'.2.2.1 ≤ 64) (hC : fr_C l κ mi' k' (fr_r κ cc :: as) μ Q') (hn : as.length = n) (hst : st0 = as.reverse ++ fr_r κ cc :: st) (hw : (st.map fun v => v.category).sum ≤ 8)
    (kk : ∀ (v : Option Value) (μ' : fr_Me), Q' v μ' → fr_L l κ b L xs (pc + 3) ls (v.toList ++ st) μ') : fr_L l κ b L xs pc ls st0 μ := by
  subst hst
  intro p e s m below meth c' hF hX H locs lsA hI hL hlo
  obtain ⟨⟨hmc, hmi, hm1, hm2, hm3, hm4⟩, hms, hmsel⟩ := hm
  obtain ⟨ci, q, hob, hq, hqn⟩ := hc
  have hts := hF.2.2.2.2.2.1
  have hR : (fr_rm k').frames + 1 ≤ room_1.frames ∧ 8 + (mi'.2.2.1 + 11) + (fr_rm k').locals ≤ room_1.locals := ⟨by show k' + 1 ≤ 2048; omega, by show 8 + (mi'.2.2.1 + 11) + 64 * k' ≤ 84000; omega⟩
  have hrecv := va_recv hF.2.2.2.2.2.2.2.1 hI.2.1 hq (fr_ob_at κ μ hob)
  rw [hqn] at hrecv
  have hpre : PreV s H mi'.1.cls (κ.2.2.1 cc) (fr_Pc κ (fr_r κ cc :: as) μ) as := ⟨fr_Pc.blind _ _ _, hrecv, fun U hU hW => ⟨rfl, by rw [hU]; exact hI, hF.2.2.2.2.2.2.2.warm hW⟩⟩
  have hfx : CallFix p m c' fm_law.2.1 fm_law.2.2.1 s #[Value.ref b] fr_tb fm_law.1.cls := ⟨hF.1, hF.2.1, hF.2.2.2.1, hF.2.2.2.2.1, hts⟩
  refine lx_callR (Q' := Q') (st := st) (a := (Value.ref (κ.2.2.1 cc) :: as).toArray) ?_ hL (fun v μ' hq H1 locs1 g1 g2 => kk v μ' hq p e s m below meth c' hF hX H1 locs1 lsA g1 g2 hlo)
  rcases hl with hl | hl
  · exact va_runV (C := mi'.1.cls) hfx hC ⟨callB_of n hts (fr_good fm_law mi' hmc) rfl rfl rfl (hts _ hmi) (hts _ hl) ⟨hm1, hm2, hm3⟩ hR, hts _ hms, hts _ hmsel⟩ hpre rfl hn hlo.1 rfl (by simpa [F0, JFrame.monitorRoom] using hw) hd ⟨Nat.le_refl _, Nat.le_refl _⟩
  · exact va_runVN (C := mi'.1.cls) hfx hC ⟨va_cnB n hts (fr_good fm_law mi' hmc) rfl rfl rfl (hF.2.2.2.2.2.2.2.2.1 _ hl) (hts _ hmi) ⟨hm1, hm2, hm3⟩ hR, hts _ hms, hts _ hmsel⟩ hpre rfl hn hlo.1 rfl (by simpa [F0, JFrame.monitorRoom] using hw) hd ⟨Nat.le_refl _, Nat.le_refl _⟩
end LAW
