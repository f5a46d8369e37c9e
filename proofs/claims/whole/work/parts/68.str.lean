/-! the text of the kinds: what the machine does with it -/
def fr_mn (own : String) (idx : Nat) : Prop := Cond.methodLink own idx Lib.Math.min.name ∈ fr_tb ∧ Cond.static Lib.Math.min.name ∈ fr_tb ∧ Cond.initialized "java/lang/Math" ∈ fr_tb ∧ Cond.code Lib.Math.min.name Lib.Math.min.code 2 (some .int) ∈ fr_tb
def sp_pg (z : Int) : Int := if z = 0 then 80 else if z = 1 then 71 else if z = 2 then 68 else 83
section STR
variable {l : Launch} {κ : fr_Ka} {mi mi' : fr_Mi} {k k' : Nat} {Q Q' : Option Value → fr_Me → Prop} {pc n idx : Nat} {ls : List (Option Value)} {st st0 as : List Value} {μ μ' : fr_Me} {z : Int}
theorem fr_old {H : Heap} {a : Nat} {cell : Cell} (hI : fr_In κ μ H) (hc : κ.2.2.2[a]? = some cell) : H[a]? = some cell := by
  rw [hI.2.2.2 a (Array.getElem?_eq_some_iff.mp hc).1]; exact hc
theorem fr_ldcS (hd : decode mi.2.1 pc = .ok (.ldc 39, 2)) (hc : mi.1.cls = RX6) (kk : fr_A l κ mi k Q (pc + 2) ls (fr_r κ 80 :: st) μ) : fr_A l κ mi k Q pc ls st μ := by
  intro p e s m args below meth c hF H locs lsA hI hL hlo
  exact va_ldcS hF.1 hF.2.1 (own := RX6) (by rw [← hc]; exact hF.2.2.2.2.1) hF.2.2.2.2.2.2.2.2.2.1 hd (kk p e s m args below meth c hF H locs lsA hI hL hlo)
theorem fr_gcs (hd : decode mi.2.1 pc = .ok (.getstatic 38, 3)) (hc : mi.1.cls = RJ0) (hl : Cond.fieldLink RJ0 38 RJ0 "COMPACT_STRINGS" "Z" ∈ fr_tb) (kk : fr_A l κ mi k Q (pc + 3) ls (fr_i 1 :: st) μ) : fr_A l κ mi k Q pc ls st μ := by
  intro p e s m args below meth c hF H locs lsA hI hL hlo
  have K := kk p e s m args below meth c hF H locs lsA hI hL hlo
  obtain ⟨cf, kf, fi, f, a, cell, h1, h2, h3, h4, h5, h6, h7, h8⟩ := hF.2.2.2.2.2.2.2.2.2.2.2.2.2.2
  exact W.gets hF.1 hF.2.1 (own := RJ0) (ref := RJ0) (by rw [← hc]; exact hF.2.2.2.2.1) (hF.2.2.2.2.2.1 _ hl) h1 h2 h3 h4 (fr_old hI h5) (fun e => by rw [e] at h6; cases h6) h7 rfl hd K
theorem fr_gsf {nm d : String} {v : Value} (hd : decode mi.2.1 pc = .ok (.getfield idx, 3)) (hc : mi.1.cls = RJ0) (hl : Cond.fieldLink RJ0 idx RJ0 nm d ∈ fr_tb) (hv : ∀ U, fr_Sv κ U → va_OF "java/lang/String" nm d v (κ.2.2.1 80) (fr_fA κ) U κ.2.2.2) (kk : fr_A l κ mi k Q (pc + 3) ls (v :: st) μ) : fr_A l κ mi k Q pc ls (fr_r κ 80 :: st) μ := by
  intro p e s m args below meth c hF H locs lsA hI hL hlo
  have K := kk p e s m args below meth c hF H locs lsA hI hL hlo
  obtain ⟨cf, kf, fi, f, cell, h1, h2, h3, h4, h5, h6⟩ := hv s hF.2.2.2.2.2.2.2.2.2
  exact W.getf hF.1 hF.2.1 (own := RJ0) (ref := RJ0) (by rw [← hc]; exact hF.2.2.2.2.1) (hF.2.2.2.2.2.1 _ hl) h1 h2 (fr_old hI h3) h4 h5 rfl rfl hd K
theorem fr_gsc (hd : decode mi.2.1 pc = .ok (.getfield idx, 3)) (hc : mi.1.cls = RJ0) (hl : Cond.fieldLink RJ0 idx RJ0 "coder" "B" ∈ fr_tb) (kk : fr_A l κ mi k Q (pc + 3) ls (fr_i 0 :: st) μ) : fr_A l κ mi k Q pc ls (fr_r κ 80 :: st) μ := fr_gsf hd hc hl (v := fr_i 0) (fun U h => h.2.2.1) kk
theorem fr_gsv (hd : decode mi.2.1 pc = .ok (.getfield idx, 3)) (hc : mi.1.cls = RJ0) (hl : Cond.fieldLink RJ0 idx RJ0 "value" "[B" ∈ fr_tb) (kk : fr_A l κ mi k Q (pc + 3) ls (fr_r κ 81 :: st) μ) : fr_A l κ mi k Q pc ls (fr_r κ 80 :: st) μ := fr_gsf hd hc hl (v := fr_r κ 81) (fun U h => h.2.2.2.1) kk
theorem fr_callT (hd : decode mi.2.1 pc = .ok (.invokevirtual idx, 3)) (hl : Cond.methodLink mi.1.cls idx mi'.1 ∈ fr_tb) (hm : fr_mv mi' n) (hc : mi'.1.cls = RJ0) (hk : k' + 1 ≤ k) (hC : fr_C l κ mi' k' (fr_r κ 80 :: as) μ Q') (hn : as.length = n) (hst : st0 = as.reverse ++ fr_r κ 80 :: st) (hw : (st.map fun v => v.category).sum ≤ 8)
    (kk : ∀ (v : Option Value) (μ' : fr_Me), Q' v μ' → fr_A l κ mi k Q (pc + 3) ls (v.toList ++ st) μ') : fr_A l κ mi k Q pc ls st0 μ := by
  subst hst
  intro p e s m args below meth c' hF H locs lsA hI hL hlo
  obtain ⟨⟨hmc, hmi, hm1, hm2, hm3, hm4⟩, hms, hmsel⟩ := hm
  have hts := hF.2.2.2.2.2.1
  have hR : (fr_rm k').frames + 1 ≤ (fr_rm k).frames ∧ 8 + (mi'.2.2.1 + 11) + (fr_rm k').locals ≤ (fr_rm k).locals := ⟨hk, by show 8 + (mi'.2.2.1 + 11) + 64 * k' ≤ 64 * k; omega⟩
  have hrecv : ∃ cell : Cell, H[κ.2.2.1 80]? = some cell ∧ cell.vm.isStatics = false ∧ s.vm.findClass mi'.1.cls = some cell.cls := by
    obtain ⟨cell, h1, h2, h3, h4⟩ := hF.2.2.2.2.2.2.2.2.2.2.1
    exact ⟨cell, fr_old hI h1, h2, by rw [hc]; exact h3⟩
  have hpre : PreV s H mi'.1.cls (κ.2.2.1 80) (fr_Pc κ (fr_r κ 80 :: as) μ) as := ⟨fr_Pc.blind _ _ _, hrecv, fun U hU hW => ⟨rfl, by rw [hU]; exact hI, hF.2.2.2.2.2.2.2.warm hW⟩⟩
  have hfx : CallFix p m c' mi.2.1 mi.2.2.1 s args fr_tb mi.1.cls := ⟨hF.1, hF.2.1, hF.2.2.2.1, hF.2.2.2.2.1, hts⟩
  refine fr_callR (Q' := Q') (st := st) (a := (Value.ref (κ.2.2.1 80) :: as).toArray) ?_ hL (fun v μ' hq H1 locs1 g1 g2 => kk v μ' hq p e s m args below meth c' hF H1 locs1 lsA g1 g2 hlo)
  exact va_runV (C := mi'.1.cls) hfx hC ⟨callB_of n hts (fr_good mi mi' hmc) rfl rfl rfl (hts _ hmi) (hts _ hl) ⟨hm1, hm2, hm3⟩ hR, hts _ hms, hts _ hmsel⟩ hpre rfl hn hlo.1 rfl (by simpa [F0, JFrame.monitorRoom] using hw) hd ⟨Nat.zero_le _, Nat.zero_le _⟩
theorem fr_cTi (hd : decode mi.2.1 pc = .ok (.invokevirtual idx, 3)) (hl : Cond.methodLink mi.1.cls idx mi'.1 ∈ fr_tb) (hm : fr_mv mi' n) (hc : mi'.1.cls = RJ0) (hk : k' + 1 ≤ k) (hC : fr_C l κ mi' k' (fr_r κ 80 :: as) μ (fr_Ei z μ')) (hn : as.length = n) (hst : st0 = as.reverse ++ fr_r κ 80 :: st) (hw : (st.map fun v => v.category).sum ≤ 8)
    (kk : fr_A l κ mi k Q (pc + 3) ls (fr_i z :: st) μ') : fr_A l κ mi k Q pc ls st0 μ := fr_callT hd hl hm hc hk hC hn hst hw (fun v m h => by obtain ⟨rfl, rfl⟩ := h; exact kk)
theorem fr_bal {x : Int} (hd : decode mi.2.1 pc = .ok (.baload, 1)) (h0 : 0 ≤ x) (h1 : x < 4) (kk : fr_A l κ mi k Q (pc + 1) ls (fr_i (sp_pg x) :: st) μ) : fr_A l κ mi k Q pc ls (fr_i x :: fr_r κ 81 :: st) μ := by
  intro p e s m args below meth c hF H locs lsA hI hL hlo
  have K := kk p e s m args below meth c hF H locs lsA hI hL hlo
  obtain ⟨cell, g1, g2, g3, g4, g5, g6, g7⟩ := hF.2.2.2.2.2.2.2.2.2.2.2.2.2.1
  have e : ∀ j : Fin 4, ¬ (Int32.ofInt ((j.val : Nat) : Int) < 0) ∧ (Int32.ofInt ((j.val : Nat) : Int)).toNatClampNeg = j.val ∧ ([80, 71, 68, 83] : List Int32).getD j.val 0 = Int32.ofInt (sp_pg ((j.val : Nat) : Int)) := by decide +kernel
  have q := e ⟨x.toNat, by omega⟩
  simp only [Int.toNat_of_nonneg h0] at q
  refine W.bald (v := fr_i (sp_pg x)) hF.1 hF.2.1 (fr_old hI g1) g2 g3 (fun r => ?_) ?_ rfl rfl hd K
  · rcases r with r | r
    · exact q.1 r
    · rw [q.2.1] at r; omega
  · rw [q.2.1, g6 _ (by omega)]; dsimp only; rw [q.2.2]
theorem fr_all4 (hd : decode mi.2.1 pc = .ok (.arraylength, 1)) (kk : fr_A l κ mi k Q (pc + 1) ls (fr_i 4 :: st) μ) : fr_A l κ mi k Q pc ls (fr_r κ 81 :: st) μ := by
  intro p e s m args below meth c hF H locs lsA hI hL hlo
  have K := kk p e s m args below meth c hF H locs lsA hI hL hlo
  obtain ⟨cell, g1, g2, g3, g4, g5, g6, g7⟩ := hF.2.2.2.2.2.2.2.2.2.2.2.2.2.1
  exact W.alen (n := Int32.ofInt 4) hF.1 hF.2.1 (fr_old hI g1) g2 (g5.trans (by decide)) rfl rfl hd K
theorem fr_mmin {a b : Int} (hd : decode mi.2.1 pc = .ok (.invokestatic idx, 3)) (hl : fr_mn mi.1.cls idx) (ha : -2147483648 ≤ a ∧ a ≤ 2147483647) (hb : -2147483648 ≤ b ∧ b ≤ 2147483647) (hk : 1 ≤ k) (hw : (st.map fun v => v.category).sum ≤ 8) (kk : fr_A l κ mi k Q (pc + 3) ls (fr_i (if b < a then b else a) :: st) μ) : fr_A l κ mi k Q pc ls (fr_i b :: fr_i a :: st) μ := by
  intro p e s m args below meth c hF H locs lsA hI hL hlo
  have hts := hF.2.2.2.2.2.1
  refine va_mmin hF.1 hF.2.1 (hF.2.2.2.1.trans hlo.1.symm) hF.2.2.2.2.1 (hts _ hl.1) (hts _ hl.2.1) (hts _ hl.2.2.1) (hts _ hl.2.2.2) hk (by show _ ≤ 64 * k; omega) (Nat.zero_le _) (Nat.zero_le _) hd ?_
  have K := kk p e s m args below meth c hF H locs lsA hI hL hlo
  have e1 : (if Int32.ofInt b < Int32.ofInt a then Int32.ofInt b else Int32.ofInt a) = Int32.ofInt (if b < a then b else a) := by
    simp only [fr_lt_iff hb ha]
    split <;> rfl
  rw [e1]
  exact K
theorem fr_i2c {x : Int} (hd : decode mi.2.1 pc = .ok (.i2c, 1)) (hx : 0 ≤ x ∧ x ≤ 65535) (kk : fr_A l κ mi k Q (pc + 1) ls (fr_i x :: st) μ) : fr_A l κ mi k Q pc ls (fr_i x :: st) μ := by
  intro p e s m args below meth c hF H locs lsA hI hL hlo
  refine lv_i2c (v := Int32.ofInt x) hF.1 hF.2.1 hd ?_ (kk p e s m args below meth c hF H locs lsA hI hL hlo)
  obtain ⟨y, rfl⟩ := Int.eq_ofNat_of_zero_le hx.1
  apply Int32.toBitVec_inj.mp
  apply BitVec.eq_of_toNat_eq
  show ((Int32.ofInt (y : Int)).toUInt32 % 65536).toNat = (Int32.ofInt (y : Int)).toBitVec.toNat
  have e : (Int32.ofInt (y : Int)).toBitVec.toNat = y := by rw [nb_tb, nb_tn (by omega)]
  rw [UInt32.toNat_mod, e]
  show (Int32.ofInt (y : Int)).toBitVec.toNat % 65536 = y
  rw [e]
  omega
end STR
theorem slJ0_38 : Cond.fieldLink RJ0 38 RJ0 "COMPACT_STRINGS" "Z" ∈ fr_tb := by decide +kernel
theorem slJ0_9 : Cond.fieldLink RJ0 9 RJ0 "value" "[B" ∈ fr_tb := by decide +kernel
theorem slJ0_15 : Cond.fieldLink RJ0 15 RJ0 "coder" "B" ∈ fr_tb := by decide +kernel
theorem slX6_41 : Cond.methodLink RX6 41 yJ0_indexOf_0f7a4 ∈ fr_tb := by decide +kernel
theorem slJ0_633 : Cond.methodLink RJ0 633 yJ0_indexOf_7cf53 ∈ fr_tb := by decide +kernel
theorem slJ0_492 : Cond.methodLink RJ0 492 yJ0_isLatin1_aae02 ∈ fr_tb := by decide +kernel
theorem slJ0_505 : Cond.methodLink RJ0 505 yJ0_length_8abf5 ∈ fr_tb := by decide +kernel
theorem mnJ1_38 : fr_mn RJ1 38 := by unfold fr_mn; decide +kernel
theorem mxJ1_92 : fr_mx RJ1 92 := by unfold fr_mx; decide +kernel
theorem fr_bret0 {l : Launch} {κ : fr_Ka} {mi : fr_Mi} {k : Nat} {Q : Option Value → fr_Me → Prop} {pc : Nat} {ls : List (Option Value)} {μ : fr_Me} (hd : decode mi.2.1 pc = .ok (.ireturn, 1)) (hr : mi.2.2.2 = some .byte) (hq : Q (some (fr_i 0)) μ) : fr_A l κ mi k Q pc ls [fr_i 0] μ := by
  intro p e s m args below meth c hF H locs lsA hI hL hl
  exact W.zret hF.1 hF.2.1 (hF.2.2.1.trans hr) rfl (fun t ht _ => ⟨_, μ, rfl, hq, by rw [ht]; exact hI⟩) hL hd (hlocks := hF.2.2.2.2.2.2.1)
theorem slJ0_335 : Cond.methodLink RJ0 335 yJ0_coder_7d493 ∈ fr_tb := by decide +kernel
