/-! the law: its cases -/
theorem lor_rg (a b : Int) : -9223372036854775808 ≤ fr_lor a b ∧ fr_lor a b ≤ 9223372036854775807 := by
  have h1 := (Int64.ofInt a ||| Int64.ofInt b).minValue_le_toInt
  have h2 := (Int64.ofInt a ||| Int64.ofInt b).toInt_le
  unfold fr_lor
  exact ⟨h1, h2⟩
theorem fr_St.n60 {μ : fr_Me} (h : fr_St μ) : 0 ≤ μ 66 3 ∧ μ 66 3 ≤ 60 := h.2.2.2.1.2.2.1.1
theorem fr_St.n9 {μ : fr_Me} (h : fr_St μ) : 0 ≤ μ 9 4 ∧ μ 9 4 ≤ 60 := by rw [h.2.2.2.1.2.1]; exact h.n60
theorem fr_St.t10 {μ : fr_Me} (h : fr_St μ) : ∀ i, 0 ≤ i → i < 60 → 0 ≤ μ 10 i ∧ μ 10 i ≤ 1000 := by rw [h.2.2.2.1.1]; exact h.2.2.2.1.2.2.2
theorem fr_St.k02 {μ : fr_Me} (h : fr_St μ) : μ 0 2 = 0 ∨ μ 0 2 = 1 := by rw [h.2.2.1.2.1]; exact h.2.2.1.1
theorem fr_St.kb {μ : fr_Me} (h : fr_St μ) : μ 0 2 = 1 → ∀ t, 0 ≤ t → t < 6 → (0 ≤ μ (42 + t) 4 ∧ μ (42 + t) 4 ≤ 1) ∧ 0 ≤ μ (42 + t) 5 ∧ μ (42 + t) 5 ≤ 1 := by
  intro hk t t0 t1
  rw [h.2.2.1.2.1] at hk
  obtain ⟨h1, h2⟩ := h.2.2.1.2.2 hk
  have e4 := h2.2.1 t 4 t0 t1 (by omega) (by omega)
  have e5 := h2.2.1 t 5 t0 t1 (by omega) (by omega)
  have r := fr_I_iff.mp h1
  have r4 := (r.2.1 t 4 t0 t1 (by omega) (by omega)).2.2.1 (by omega)
  have r5 := (r.2.1 t 5 t0 t1 (by omega) (by omega)).2.2.1 (by omega)
  rw [e4, e5]
  exact ⟨r4, r5⟩
set_option maxRecDepth 20000 in
theorem lc_tree {l : Launch} {κ : fr_Ka} {b L : Nat} {xs : Nat → Int32} {i : Int} {μ : fr_Me} (h : fr_St μ) (hi : 0 ≤ i) (hiL : i + 6 ≤ L) (hL3 : L ≤ 384) (kk : ∀ m', fr_St m' → fr_L l κ b L xs 1390 [some (Value.ref b), some (fr_r κ 0), some (fr_r κ 66), some (fr_i i)] [] m') : fr_L l κ b L xs 192 [some (Value.ref b), some (fr_r κ 0), some (fr_r κ 66), some (fr_i i)] [] μ := by
  refine lx_al1 dL_law_192 ?_
  refine lx_al0 dL_law_193 ?_
  refine lx_il3 dL_law_194 ?_
  refine lx_iconst dL_law_195 ?_
  refine lx_iadd dL_law_196 ?_
  refine lx_at dL_law_197 (by omega) (by omega) hL3 ?_
  refine lx_call (mi' := fmX10_tree) dL_law_198 mlL_13 mvX10_tree ⟨10, _, ⟨by decide, by decide, rfl⟩, rfl, rfl⟩ (Nat.le_of_ble_eq_true rfl) (Nat.le_of_ble_eq_true rfl) (kcX10_tree h.2.1 h.1 (sxr _ _)) rfl rfl (Nat.le_of_ble_eq_true rfl) (fun v m hq => ?_)
  obtain ⟨z, rfl, hq⟩ := hq
  have h1 : c_tree μ (sx xs (i + 1)) z m := hq
  have ck := ck_tree h h1
  have hIm : fr_I (m 67) := by rw [ck 67 (by omega)]; exact h.1
  have hSm : fr_Sh m := h.2.2.2.2.1.keep (ck 75 (by omega)) (ck 76 (by omega)) (ck 77 (by omega))
  have e66 := ck 66 (by omega)
  have e68 := ck 68 (by omega)
  have hn := h.n60
  have hk1 := h.2.2.1.1
  refine lx_al2 dL_law_201 ?_
  refine lx_al0 dL_law_202 ?_
  refine lx_il3 dL_law_203 ?_
  refine lx_iconst dL_law_204 ?_
  refine lx_iadd dL_law_205 ?_
  refine lx_at dL_law_206 (by omega) (by omega) hL3 ?_
  refine lx_call (mi' := fmX11_tree) dL_law_207 mlL_17 mvX11_tree ⟨11, _, ⟨by decide, by decide, rfl⟩, rfl, rfl⟩ (Nat.le_of_ble_eq_true rfl) (Nat.le_of_ble_eq_true rfl) (kcX11_tree hIm (sxr _ _)) rfl rfl (Nat.le_of_ble_eq_true rfl) (fun v' m' hq' => ?_)
  obtain ⟨z', rfl, hq'⟩ := hq'
  have h2 : r_tree m (sx xs (i + 1)) z' m' := hq'
  have hst := st_tree h h1 h2
  exact lx_cmp (tgt := 1390) dL_law_210 (by decide) hst.1 (kk m' hst.2)
set_option maxRecDepth 20000 in
theorem lc_cutting {l : Launch} {κ : fr_Ka} {b L : Nat} {xs : Nat → Int32} {i : Int} {μ : fr_Me} (h : fr_St μ) (hi : 0 ≤ i) (hiL : i + 6 ≤ L) (hL3 : L ≤ 384) (kk : ∀ m', fr_St m' → fr_L l κ b L xs 1390 [some (Value.ref b), some (fr_r κ 0), some (fr_r κ 66), some (fr_i i)] [] m') : fr_L l κ b L xs 215 [some (Value.ref b), some (fr_r κ 0), some (fr_r κ 66), some (fr_i i)] [] μ := by
  refine lx_al1 dL_law_215 ?_
  refine lx_al0 dL_law_216 ?_
  refine lx_il3 dL_law_217 ?_
  refine lx_iconst dL_law_218 ?_
  refine lx_iadd dL_law_219 ?_
  refine lx_at dL_law_220 (by omega) (by omega) hL3 ?_
  refine lx_call (mi' := fmX10_cutting) dL_law_221 mlL_18 mvX10_cutting ⟨10, _, ⟨by decide, by decide, rfl⟩, rfl, rfl⟩ (Nat.le_of_ble_eq_true rfl) (Nat.le_of_ble_eq_true rfl) (kcX10_cutting h.2.1 h.1 (sxr _ _)) rfl rfl (Nat.le_of_ble_eq_true rfl) (fun v m hq => ?_)
  obtain ⟨z, rfl, hq⟩ := hq
  have h1 : c_cutting μ (sx xs (i + 1)) z m := hq
  have ck := ck_cutting h h1
  have hIm : fr_I (m 67) := by rw [ck 67 (by omega)]; exact h.1
  have hSm : fr_Sh m := h.2.2.2.2.1.keep (ck 75 (by omega)) (ck 76 (by omega)) (ck 77 (by omega))
  have e66 := ck 66 (by omega)
  have e68 := ck 68 (by omega)
  have hn := h.n60
  have hk1 := h.2.2.1.1
  refine lx_al2 dL_law_224 ?_
  refine lx_al0 dL_law_225 ?_
  refine lx_il3 dL_law_226 ?_
  refine lx_iconst dL_law_227 ?_
  refine lx_iadd dL_law_228 ?_
  refine lx_at dL_law_229 (by omega) (by omega) hL3 ?_
  refine lx_call (mi' := fmX11_cutting) dL_law_230 mlL_21 mvX11_cutting ⟨11, _, ⟨by decide, by decide, rfl⟩, rfl, rfl⟩ (Nat.le_of_ble_eq_true rfl) (Nat.le_of_ble_eq_true rfl) (kcX11_cutting hIm (sxr _ _)) rfl rfl (Nat.le_of_ble_eq_true rfl) (fun v' m' hq' => ?_)
  obtain ⟨z', rfl, hq'⟩ := hq'
  have h2 : r_cutting m (sx xs (i + 1)) z' m' := hq'
  have hst := st_cutting h h1 h2
  exact lx_cmp (tgt := 1390) dL_law_233 (by decide) hst.1 (kk m' hst.2)
set_option maxRecDepth 20000 in
theorem lc_climber {l : Launch} {κ : fr_Ka} {b L : Nat} {xs : Nat → Int32} {i : Int} {μ : fr_Me} (h : fr_St μ) (hi : 0 ≤ i) (hiL : i + 6 ≤ L) (hL3 : L ≤ 384) (kk : ∀ m', fr_St m' → fr_L l κ b L xs 1390 [some (Value.ref b), some (fr_r κ 0), some (fr_r κ 66), some (fr_i i)] [] m') : fr_L l κ b L xs 238 [some (Value.ref b), some (fr_r κ 0), some (fr_r κ 66), some (fr_i i)] [] μ := by
  refine lx_al1 dL_law_238 ?_
  refine lx_al0 dL_law_239 ?_
  refine lx_il3 dL_law_240 ?_
  refine lx_iconst dL_law_241 ?_
  refine lx_iadd dL_law_242 ?_
  refine lx_at dL_law_243 (by omega) (by omega) hL3 ?_
  refine lx_al0 dL_law_244 ?_
  refine lx_il3 dL_law_245 ?_
  refine lx_iconst dL_law_246 ?_
  refine lx_iadd dL_law_247 ?_
  refine lx_at dL_law_248 (by omega) (by omega) hL3 ?_
  refine lx_al0 dL_law_249 ?_
  refine lx_il3 dL_law_250 ?_
  refine lx_iconst dL_law_251 ?_
  refine lx_iadd dL_law_252 ?_
  refine lx_at dL_law_253 (by omega) (by omega) hL3 ?_
  refine lx_al0 dL_law_254 ?_
  refine lx_il3 dL_law_255 ?_
  refine lx_iconst dL_law_256 ?_
  refine lx_iadd dL_law_257 ?_
  refine lx_at dL_law_258 (by omega) (by omega) hL3 ?_
  refine lx_call (mi' := fmX10_climber) dL_law_259 mlL_22 mvX10_climber ⟨10, _, ⟨by decide, by decide, rfl⟩, rfl, rfl⟩ (Nat.le_of_ble_eq_true rfl) (Nat.le_of_ble_eq_true rfl) (kcX10_climber h.2.1 h.1 (sxr _ _) (sxr _ _) (sxr _ _) (sxr _ _)) rfl rfl (Nat.le_of_ble_eq_true rfl) (fun v m hq => ?_)
  obtain ⟨z, rfl, hq⟩ := hq
  have h1 : c_climber μ (sx xs (i + 1)) (sx xs (i + 2)) (sx xs (i + 3)) (sx xs (i + 4)) z m := hq
  have ck := ck_climber h h1
  have hIm : fr_I (m 67) := by rw [ck 67 (by omega)]; exact h.1
  have hSm : fr_Sh m := h.2.2.2.2.1.keep (ck 75 (by omega)) (ck 76 (by omega)) (ck 77 (by omega))
  have e66 := ck 66 (by omega)
  have e68 := ck 68 (by omega)
  have hn := h.n60
  have hk1 := h.2.2.1.1
  refine lx_al2 dL_law_262 ?_
  refine lx_al0 dL_law_263 ?_
  refine lx_il3 dL_law_264 ?_
  refine lx_iconst dL_law_265 ?_
  refine lx_iadd dL_law_266 ?_
  refine lx_at dL_law_267 (by omega) (by omega) hL3 ?_
  refine lx_al0 dL_law_268 ?_
  refine lx_il3 dL_law_269 ?_
  refine lx_iconst dL_law_270 ?_
  refine lx_iadd dL_law_271 ?_
  refine lx_at dL_law_272 (by omega) (by omega) hL3 ?_
  refine lx_al0 dL_law_273 ?_
  refine lx_il3 dL_law_274 ?_
  refine lx_iconst dL_law_275 ?_
  refine lx_iadd dL_law_276 ?_
  refine lx_at dL_law_277 (by omega) (by omega) hL3 ?_
  refine lx_al0 dL_law_278 ?_
  refine lx_il3 dL_law_279 ?_
  refine lx_iconst dL_law_280 ?_
  refine lx_iadd dL_law_281 ?_
  refine lx_at dL_law_282 (by omega) (by omega) hL3 ?_
  refine lx_call (mi' := fmX11_climber) dL_law_283 mlL_26 mvX11_climber ⟨11, _, ⟨by decide, by decide, rfl⟩, rfl, rfl⟩ (Nat.le_of_ble_eq_true rfl) (Nat.le_of_ble_eq_true rfl) (kcX11_climber hIm (sxr _ _) (sxr _ _) (sxr _ _) (sxr _ _)) rfl rfl (Nat.le_of_ble_eq_true rfl) (fun v' m' hq' => ?_)
  obtain ⟨z', rfl, hq'⟩ := hq'
  have h2 : r_climber m (sx xs (i + 1)) (sx xs (i + 2)) (sx xs (i + 3)) (sx xs (i + 4)) z' m' := hq'
  have hst := st_climber h h1 h2
  exact lx_cmp (tgt := 1390) dL_law_286 (by decide) hst.1 (kk m' hst.2)
set_option maxRecDepth 20000 in
theorem lc_set {l : Launch} {κ : fr_Ka} {b L : Nat} {xs : Nat → Int32} {i : Int} {μ : fr_Me} (h : fr_St μ) (hi : 0 ≤ i) (hiL : i + 6 ≤ L) (hL3 : L ≤ 384) (kk : ∀ m', fr_St m' → fr_L l κ b L xs 1390 [some (Value.ref b), some (fr_r κ 0), some (fr_r κ 66), some (fr_i i)] [] m') : fr_L l κ b L xs 291 [some (Value.ref b), some (fr_r κ 0), some (fr_r κ 66), some (fr_i i)] [] μ := by
  refine lx_al1 dL_law_291 ?_
  refine lx_al0 dL_law_292 ?_
  refine lx_il3 dL_law_293 ?_
  refine lx_iconst dL_law_294 ?_
  refine lx_iadd dL_law_295 ?_
  refine lx_at dL_law_296 (by omega) (by omega) hL3 ?_
  refine lx_al0 dL_law_297 ?_
  refine lx_il3 dL_law_298 ?_
  refine lx_iconst dL_law_299 ?_
  refine lx_iadd dL_law_300 ?_
  refine lx_at dL_law_301 (by omega) (by omega) hL3 ?_
  refine lx_al0 dL_law_302 ?_
  refine lx_il3 dL_law_303 ?_
  refine lx_iconst dL_law_304 ?_
  refine lx_iadd dL_law_305 ?_
  refine lx_at dL_law_306 (by omega) (by omega) hL3 ?_
  refine lx_call (mi' := fmX10_set) dL_law_307 mlL_27 mvX10_set ⟨10, _, ⟨by decide, by decide, rfl⟩, rfl, rfl⟩ (Nat.le_of_ble_eq_true rfl) (Nat.le_of_ble_eq_true rfl) (kcX10_set h.2.1 h.1 (sxr _ _) (sxr _ _) (sxr _ _)) rfl rfl (Nat.le_of_ble_eq_true rfl) (fun v m hq => ?_)
  obtain ⟨z, rfl, hq⟩ := hq
  have h1 : c_set μ (sx xs (i + 1)) (sx xs (i + 2)) (sx xs (i + 3)) z m := hq
  have ck := ck_set h h1
  have hIm : fr_I (m 67) := by rw [ck 67 (by omega)]; exact h.1
  have hSm : fr_Sh m := h.2.2.2.2.1.keep (ck 75 (by omega)) (ck 76 (by omega)) (ck 77 (by omega))
  have e66 := ck 66 (by omega)
  have e68 := ck 68 (by omega)
  have hn := h.n60
  have hk1 := h.2.2.1.1
  refine lx_al2 dL_law_310 ?_
  refine lx_al0 dL_law_311 ?_
  refine lx_il3 dL_law_312 ?_
  refine lx_iconst dL_law_313 ?_
  refine lx_iadd dL_law_314 ?_
  refine lx_at dL_law_315 (by omega) (by omega) hL3 ?_
  refine lx_al0 dL_law_316 ?_
  refine lx_il3 dL_law_317 ?_
  refine lx_iconst dL_law_318 ?_
  refine lx_iadd dL_law_319 ?_
  refine lx_at dL_law_320 (by omega) (by omega) hL3 ?_
  refine lx_al0 dL_law_321 ?_
  refine lx_il3 dL_law_322 ?_
  refine lx_iconst dL_law_323 ?_
  refine lx_iadd dL_law_324 ?_
  refine lx_at dL_law_325 (by omega) (by omega) hL3 ?_
  refine lx_call (mi' := fmX11_set) dL_law_326 mlL_31 mvX11_set ⟨11, _, ⟨by decide, by decide, rfl⟩, rfl, rfl⟩ (Nat.le_of_ble_eq_true rfl) (Nat.le_of_ble_eq_true rfl) (kcX11_set hIm (sxr _ _) (sxr _ _) (sxr _ _)) rfl rfl (Nat.le_of_ble_eq_true rfl) (fun v' m' hq' => ?_)
  obtain ⟨z', rfl, hq'⟩ := hq'
  have h2 : r_set m (sx xs (i + 1)) (sx xs (i + 2)) (sx xs (i + 3)) z' m' := hq'
  have hst := st_set h h1 h2
  exact lx_cmp (tgt := 1390) dL_law_329 (by decide) hst.1 (kk m' hst.2)
set_option maxRecDepth 20000 in
theorem lc_told {l : Launch} {κ : fr_Ka} {b L : Nat} {xs : Nat → Int32} {i : Int} {μ : fr_Me} (h : fr_St μ) (hi : 0 ≤ i) (hiL : i + 6 ≤ L) (hL3 : L ≤ 384) (kk : ∀ m', fr_St m' → fr_L l κ b L xs 1390 [some (Value.ref b), some (fr_r κ 0), some (fr_r κ 66), some (fr_i i)] [] m') : fr_L l κ b L xs 334 [some (Value.ref b), some (fr_r κ 0), some (fr_r κ 66), some (fr_i i)] [] μ := by
  refine lx_al1 dL_law_334 ?_
  refine lx_al0 dL_law_335 ?_
  refine lx_il3 dL_law_336 ?_
  refine lx_iconst dL_law_337 ?_
  refine lx_iadd dL_law_338 ?_
  refine lx_at dL_law_339 (by omega) (by omega) hL3 ?_
  refine lx_al0 dL_law_340 ?_
  refine lx_il3 dL_law_341 ?_
  refine lx_iconst dL_law_342 ?_
  refine lx_iadd dL_law_343 ?_
  refine lx_at dL_law_344 (by omega) (by omega) hL3 ?_
  refine lx_call (mi' := fmX10_told) dL_law_345 mlL_32 mvX10_told ⟨10, _, ⟨by decide, by decide, rfl⟩, rfl, rfl⟩ (Nat.le_of_ble_eq_true rfl) (Nat.le_of_ble_eq_true rfl) (kcX10_told h.2.1 h.1 (sxr _ _) (sxr _ _)) rfl rfl (Nat.le_of_ble_eq_true rfl) (fun v m hq => ?_)
  obtain ⟨rfl, hm⟩ := hq
  have h1 : c_told μ (sx xs (i + 1)) (sx xs (i + 2)) _ m := ⟨rfl, hm⟩
  have ck := ck_told h h1
  have hIm : fr_I (m 67) := by rw [ck 67 (by omega)]; exact h.1
  have hSm : fr_Sh m := h.2.2.2.2.1.keep (ck 75 (by omega)) (ck 76 (by omega)) (ck 77 (by omega))
  have e66 := ck 66 (by omega)
  have e68 := ck 68 (by omega)
  have hn := h.n60
  have hk1 := h.2.2.1.1
  refine lx_al2 dL_law_348 ?_
  refine lx_al0 dL_law_349 ?_
  refine lx_il3 dL_law_350 ?_
  refine lx_iconst dL_law_351 ?_
  refine lx_iadd dL_law_352 ?_
  refine lx_at dL_law_353 (by omega) (by omega) hL3 ?_
  refine lx_al0 dL_law_354 ?_
  refine lx_il3 dL_law_355 ?_
  refine lx_iconst dL_law_356 ?_
  refine lx_iadd dL_law_357 ?_
  refine lx_at dL_law_358 (by omega) (by omega) hL3 ?_
  refine lx_call (mi' := fmX11_told) dL_law_359 mlL_36 mvX11_told ⟨11, _, ⟨by decide, by decide, rfl⟩, rfl, rfl⟩ (Nat.le_of_ble_eq_true rfl) (Nat.le_of_ble_eq_true rfl) (kcX11_told hIm (sxr _ _) (sxr _ _)) rfl rfl (Nat.le_of_ble_eq_true rfl) (fun v' m' hq' => ?_)
  obtain ⟨rfl, hm'⟩ := hq'
  have h2 : r_told m (sx xs (i + 1)) (sx xs (i + 2)) _ m' := ⟨rfl, hm'⟩
  have hst := st_told h h1 h2
  exact lx_cmp (tgt := 1390) dL_law_362 (by decide) hst.1 (kk m' hst.2)
set_option maxRecDepth 20000 in
theorem lc_of {l : Launch} {κ : fr_Ka} {b L : Nat} {xs : Nat → Int32} {i : Int} {μ : fr_Me} (h : fr_St μ) (hi : 0 ≤ i) (hiL : i + 6 ≤ L) (hL3 : L ≤ 384) (kk : ∀ m', fr_St m' → fr_L l κ b L xs 1390 [some (Value.ref b), some (fr_r κ 0), some (fr_r κ 66), some (fr_i i)] [] m') : fr_L l κ b L xs 367 [some (Value.ref b), some (fr_r κ 0), some (fr_r κ 66), some (fr_i i)] [] μ := by
  refine lx_al1 dL_law_367 ?_
  refine lx_al0 dL_law_368 ?_
  refine lx_il3 dL_law_369 ?_
  refine lx_iconst dL_law_370 ?_
  refine lx_iadd dL_law_371 ?_
  refine lx_at dL_law_372 (by omega) (by omega) hL3 ?_
  refine lx_al0 dL_law_373 ?_
  refine lx_il3 dL_law_374 ?_
  refine lx_iconst dL_law_375 ?_
  refine lx_iadd dL_law_376 ?_
  refine lx_at dL_law_377 (by omega) (by omega) hL3 ?_
  refine lx_call (mi' := fmX10_of) dL_law_378 mlL_37 mvX10_of ⟨10, _, ⟨by decide, by decide, rfl⟩, rfl, rfl⟩ (Nat.le_of_ble_eq_true rfl) (Nat.le_of_ble_eq_true rfl) (kcX10_of h.2.1 h.1 (sxr _ _) (sxr _ _)) rfl rfl (Nat.le_of_ble_eq_true rfl) (fun v m hq => ?_)
  obtain ⟨rfl, hm⟩ := hq
  have h1 : c_of μ (sx xs (i + 1)) (sx xs (i + 2)) _ m := ⟨rfl, hm⟩
  have ck := ck_of h h1
  have hIm : fr_I (m 67) := by rw [ck 67 (by omega)]; exact h.1
  have hSm : fr_Sh m := h.2.2.2.2.1.keep (ck 75 (by omega)) (ck 76 (by omega)) (ck 77 (by omega))
  have e66 := ck 66 (by omega)
  have e68 := ck 68 (by omega)
  have hn := h.n60
  have hk1 := h.2.2.1.1
  refine lx_al2 dL_law_381 ?_
  refine lx_al0 dL_law_382 ?_
  refine lx_il3 dL_law_383 ?_
  refine lx_iconst dL_law_384 ?_
  refine lx_iadd dL_law_385 ?_
  refine lx_at dL_law_386 (by omega) (by omega) hL3 ?_
  refine lx_al0 dL_law_387 ?_
  refine lx_il3 dL_law_388 ?_
  refine lx_iconst dL_law_389 ?_
  refine lx_iadd dL_law_390 ?_
  refine lx_at dL_law_391 (by omega) (by omega) hL3 ?_
  refine lx_call (mi' := fmX11_of) dL_law_392 mlL_40 mvX11_of ⟨11, _, ⟨by decide, by decide, rfl⟩, rfl, rfl⟩ (Nat.le_of_ble_eq_true rfl) (Nat.le_of_ble_eq_true rfl) (kcX11_of hIm (sxr _ _) (sxr _ _)) rfl rfl (Nat.le_of_ble_eq_true rfl) (fun v' m' hq' => ?_)
  obtain ⟨rfl, hm'⟩ := hq'
  have h2 : r_of m (sx xs (i + 1)) (sx xs (i + 2)) _ m' := ⟨rfl, hm'⟩
  have hst := st_of h h1 h2
  exact lx_cmp (tgt := 1390) dL_law_395 (by decide) hst.1 (kk m' hst.2)
set_option maxRecDepth 20000 in
theorem lc_price {l : Launch} {κ : fr_Ka} {b L : Nat} {xs : Nat → Int32} {i : Int} {μ : fr_Me} (h : fr_St μ) (hi : 0 ≤ i) (hiL : i + 6 ≤ L) (hL3 : L ≤ 384) (kk : ∀ m', fr_St m' → fr_L l κ b L xs 1390 [some (Value.ref b), some (fr_r κ 0), some (fr_r κ 66), some (fr_i i)] [] m') : fr_L l κ b L xs 400 [some (Value.ref b), some (fr_r κ 0), some (fr_r κ 66), some (fr_i i)] [] μ := by
  refine lx_al1 dL_law_400 ?_
  refine lx_al0 dL_law_401 ?_
  refine lx_il3 dL_law_402 ?_
  refine lx_iconst dL_law_403 ?_
  refine lx_iadd dL_law_404 ?_
  refine lx_at dL_law_405 (by omega) (by omega) hL3 ?_
  refine lx_al0 dL_law_406 ?_
  refine lx_il3 dL_law_407 ?_
  refine lx_iconst dL_law_408 ?_
  refine lx_iadd dL_law_409 ?_
  refine lx_at dL_law_410 (by omega) (by omega) hL3 ?_
  refine lx_call (mi' := fmX10_price) dL_law_411 mlL_41 mvX10_price ⟨10, _, ⟨by decide, by decide, rfl⟩, rfl, rfl⟩ (Nat.le_of_ble_eq_true rfl) (Nat.le_of_ble_eq_true rfl) (kcX10_price h.2.1 h.1 (sxr _ _) (sxr _ _)) rfl rfl (Nat.le_of_ble_eq_true rfl) (fun v m hq => ?_)
  obtain ⟨z, rfl, hq⟩ := hq
  have h1 : c_price μ (sx xs (i + 1)) (sx xs (i + 2)) z m := hq
  have ck := ck_price h h1
  have hIm : fr_I (m 67) := by rw [ck 67 (by omega)]; exact h.1
  have hSm : fr_Sh m := h.2.2.2.2.1.keep (ck 75 (by omega)) (ck 76 (by omega)) (ck 77 (by omega))
  have e66 := ck 66 (by omega)
  have e68 := ck 68 (by omega)
  have hn := h.n60
  have hk1 := h.2.2.1.1
  refine lx_al2 dL_law_414 ?_
  refine lx_al0 dL_law_415 ?_
  refine lx_il3 dL_law_416 ?_
  refine lx_iconst dL_law_417 ?_
  refine lx_iadd dL_law_418 ?_
  refine lx_at dL_law_419 (by omega) (by omega) hL3 ?_
  refine lx_al0 dL_law_420 ?_
  refine lx_il3 dL_law_421 ?_
  refine lx_iconst dL_law_422 ?_
  refine lx_iadd dL_law_423 ?_
  refine lx_at dL_law_424 (by omega) (by omega) hL3 ?_
  refine lx_call (mi' := fmX11_price) dL_law_425 mlL_44 mvX11_price ⟨11, _, ⟨by decide, by decide, rfl⟩, rfl, rfl⟩ (Nat.le_of_ble_eq_true rfl) (Nat.le_of_ble_eq_true rfl) (kcX11_price hIm (sxr _ _) (sxr _ _)) rfl rfl (Nat.le_of_ble_eq_true rfl) (fun v' m' hq' => ?_)
  obtain ⟨z', rfl, hq'⟩ := hq'
  have h2 : r_price m (sx xs (i + 1)) (sx xs (i + 2)) z' m' := hq'
  have hst := st_price h h1 h2
  exact lx_cmp (tgt := 1390) dL_law_428 (by decide) hst.1 (kk m' hst.2)
set_option maxRecDepth 20000 in
theorem lc_fence {l : Launch} {κ : fr_Ka} {b L : Nat} {xs : Nat → Int32} {i : Int} {μ : fr_Me} (h : fr_St μ) (hi : 0 ≤ i) (hiL : i + 6 ≤ L) (hL3 : L ≤ 384) (kk : ∀ m', fr_St m' → fr_L l κ b L xs 1390 [some (Value.ref b), some (fr_r κ 0), some (fr_r κ 66), some (fr_i i)] [] m') : fr_L l κ b L xs 433 [some (Value.ref b), some (fr_r κ 0), some (fr_r κ 66), some (fr_i i)] [] μ := by
  refine lx_al1 dL_law_433 ?_
  refine lx_al0 dL_law_434 ?_
  refine lx_il3 dL_law_435 ?_
  refine lx_iconst dL_law_436 ?_
  refine lx_iadd dL_law_437 ?_
  refine lx_at dL_law_438 (by omega) (by omega) hL3 ?_
  refine lx_al0 dL_law_439 ?_
  refine lx_il3 dL_law_440 ?_
  refine lx_iconst dL_law_441 ?_
  refine lx_iadd dL_law_442 ?_
  refine lx_at dL_law_443 (by omega) (by omega) hL3 ?_
  refine lx_call (mi' := fmX10_fence) dL_law_444 mlL_45 mvX10_fence ⟨10, _, ⟨by decide, by decide, rfl⟩, rfl, rfl⟩ (Nat.le_of_ble_eq_true rfl) (Nat.le_of_ble_eq_true rfl) (kcX10_fence h.2.1 h.1 (sxr _ _) (sxr _ _)) rfl rfl (Nat.le_of_ble_eq_true rfl) (fun v m hq => ?_)
  obtain ⟨z, rfl, hq⟩ := hq
  have h1 : c_fence μ (sx xs (i + 1)) (sx xs (i + 2)) z m := hq
  have ck := ck_fence h h1
  have hIm : fr_I (m 67) := by rw [ck 67 (by omega)]; exact h.1
  have hSm : fr_Sh m := h.2.2.2.2.1.keep (ck 75 (by omega)) (ck 76 (by omega)) (ck 77 (by omega))
  have e66 := ck 66 (by omega)
  have e68 := ck 68 (by omega)
  have hn := h.n60
  have hk1 := h.2.2.1.1
  refine lx_al2 dL_law_447 ?_
  refine lx_al0 dL_law_448 ?_
  refine lx_il3 dL_law_449 ?_
  refine lx_iconst dL_law_450 ?_
  refine lx_iadd dL_law_451 ?_
  refine lx_at dL_law_452 (by omega) (by omega) hL3 ?_
  refine lx_al0 dL_law_453 ?_
  refine lx_il3 dL_law_454 ?_
  refine lx_iconst dL_law_455 ?_
  refine lx_iadd dL_law_456 ?_
  refine lx_at dL_law_457 (by omega) (by omega) hL3 ?_
  refine lx_call (mi' := fmX11_fence) dL_law_458 mlL_48 mvX11_fence ⟨11, _, ⟨by decide, by decide, rfl⟩, rfl, rfl⟩ (Nat.le_of_ble_eq_true rfl) (Nat.le_of_ble_eq_true rfl) (kcX11_fence hIm (sxr _ _) (sxr _ _)) rfl rfl (Nat.le_of_ble_eq_true rfl) (fun v' m' hq' => ?_)
  obtain ⟨z', rfl, hq'⟩ := hq'
  have h2 : r_fence m (sx xs (i + 1)) (sx xs (i + 2)) z' m' := hq'
  have hst := st_fence h h1 h2
  exact lx_cmp (tgt := 1390) dL_law_461 (by decide) hst.1 (kk m' hst.2)
set_option maxRecDepth 20000 in
theorem lc_climb {l : Launch} {κ : fr_Ka} {b L : Nat} {xs : Nat → Int32} {i : Int} {μ : fr_Me} (h : fr_St μ) (hi : 0 ≤ i) (hiL : i + 6 ≤ L) (hL3 : L ≤ 384) (kk : ∀ m', fr_St m' → fr_L l κ b L xs 1390 [some (Value.ref b), some (fr_r κ 0), some (fr_r κ 66), some (fr_i i)] [] m') : fr_L l κ b L xs 466 [some (Value.ref b), some (fr_r κ 0), some (fr_r κ 66), some (fr_i i)] [] μ := by
  refine lx_al1 dL_law_466 ?_
  refine lx_al0 dL_law_467 ?_
  refine lx_il3 dL_law_468 ?_
  refine lx_iconst dL_law_469 ?_
  refine lx_iadd dL_law_470 ?_
  refine lx_at dL_law_471 (by omega) (by omega) hL3 ?_
  refine lx_al0 dL_law_472 ?_
  refine lx_il3 dL_law_473 ?_
  refine lx_iconst dL_law_474 ?_
  refine lx_iadd dL_law_475 ?_
  refine lx_at dL_law_476 (by omega) (by omega) hL3 ?_
  refine lx_call (mi' := fmX10_climb) dL_law_477 mlL_49 mvX10_climb ⟨10, _, ⟨by decide, by decide, rfl⟩, rfl, rfl⟩ (Nat.le_of_ble_eq_true rfl) (Nat.le_of_ble_eq_true rfl) (kcX10_climb h.2.1 h.1 (sxr _ _) (sxr _ _)) rfl rfl (Nat.le_of_ble_eq_true rfl) (fun v m hq => ?_)
  obtain ⟨z, rfl, hq⟩ := hq
  have h1 : c_climb μ (sx xs (i + 1)) (sx xs (i + 2)) z m := hq
  have ck := ck_climb h h1
  have hIm : fr_I (m 67) := by rw [ck 67 (by omega)]; exact h.1
  have hSm : fr_Sh m := h.2.2.2.2.1.keep (ck 75 (by omega)) (ck 76 (by omega)) (ck 77 (by omega))
  have e66 := ck 66 (by omega)
  have e68 := ck 68 (by omega)
  have hn := h.n60
  have hk1 := h.2.2.1.1
  refine lx_al2 dL_law_480 ?_
  refine lx_al0 dL_law_481 ?_
  refine lx_il3 dL_law_482 ?_
  refine lx_iconst dL_law_483 ?_
  refine lx_iadd dL_law_484 ?_
  refine lx_at dL_law_485 (by omega) (by omega) hL3 ?_
  refine lx_al0 dL_law_486 ?_
  refine lx_il3 dL_law_487 ?_
  refine lx_iconst dL_law_488 ?_
  refine lx_iadd dL_law_489 ?_
  refine lx_at dL_law_490 (by omega) (by omega) hL3 ?_
  refine lx_call (mi' := fmX11_climb) dL_law_491 mlL_52 mvX11_climb ⟨11, _, ⟨by decide, by decide, rfl⟩, rfl, rfl⟩ (Nat.le_of_ble_eq_true rfl) (Nat.le_of_ble_eq_true rfl) (kcX11_climb hIm (sxr _ _) (sxr _ _)) rfl rfl (Nat.le_of_ble_eq_true rfl) (fun v' m' hq' => ?_)
  obtain ⟨z', rfl, hq'⟩ := hq'
  have h2 : r_climb m (sx xs (i + 1)) (sx xs (i + 2)) z' m' := hq'
  have hst := st_climb h h1 h2
  exact lx_cmp (tgt := 1390) dL_law_494 (by decide) hst.1 (kk m' hst.2)
set_option maxRecDepth 20000 in
theorem lc_type {l : Launch} {κ : fr_Ka} {b L : Nat} {xs : Nat → Int32} {i : Int} {μ : fr_Me} (h : fr_St μ) (hi : 0 ≤ i) (hiL : i + 6 ≤ L) (hL3 : L ≤ 384) (kk : ∀ m', fr_St m' → fr_L l κ b L xs 1390 [some (Value.ref b), some (fr_r κ 0), some (fr_r κ 66), some (fr_i i)] [] m') : fr_L l κ b L xs 499 [some (Value.ref b), some (fr_r κ 0), some (fr_r κ 66), some (fr_i i)] [] μ := by
  refine lx_al1 dL_law_499 ?_
  refine lx_al0 dL_law_500 ?_
  refine lx_il3 dL_law_501 ?_
  refine lx_iconst dL_law_502 ?_
  refine lx_iadd dL_law_503 ?_
  refine lx_at dL_law_504 (by omega) (by omega) hL3 ?_
  refine lx_call (mi' := fmX10_type) dL_law_505 mlL_53 mvX10_type ⟨10, _, ⟨by decide, by decide, rfl⟩, rfl, rfl⟩ (Nat.le_of_ble_eq_true rfl) (Nat.le_of_ble_eq_true rfl) (kcX10_type h.n9 (sxr _ _)) rfl rfl (Nat.le_of_ble_eq_true rfl) (fun v m hq => ?_)
  obtain ⟨z, rfl, hq⟩ := hq
  have h1 : c_type μ (sx xs (i + 1)) z m := hq
  have ck := ck_type h h1
  have hIm : fr_I (m 67) := by rw [ck 67 (by omega)]; exact h.1
  have hSm : fr_Sh m := h.2.2.2.2.1.keep (ck 75 (by omega)) (ck 76 (by omega)) (ck 77 (by omega))
  have e66 := ck 66 (by omega)
  have e68 := ck 68 (by omega)
  have hn := h.n60
  have hk1 := h.2.2.1.1
  refine lx_al2 dL_law_508 ?_
  refine lx_al0 dL_law_509 ?_
  refine lx_il3 dL_law_510 ?_
  refine lx_iconst dL_law_511 ?_
  refine lx_iadd dL_law_512 ?_
  refine lx_at dL_law_513 (by omega) (by omega) hL3 ?_
  refine lx_call (mi' := fmX11_type) dL_law_514 mlL_56 mvX11_type ⟨11, _, ⟨by decide, by decide, rfl⟩, rfl, rfl⟩ (Nat.le_of_ble_eq_true rfl) (Nat.le_of_ble_eq_true rfl) (kcX11_type (by rw [e66]; exact hn) (sxr _ _)) rfl rfl (Nat.le_of_ble_eq_true rfl) (fun v' m' hq' => ?_)
  obtain ⟨z', rfl, hq'⟩ := hq'
  have h2 : r_type m (sx xs (i + 1)) z' m' := hq'
  have hst := st_type h h1 h2
  exact lx_cmp (tgt := 1390) dL_law_517 (by decide) hst.1 (kk m' hst.2)
set_option maxRecDepth 20000 in
theorem lc_commons {l : Launch} {κ : fr_Ka} {b L : Nat} {xs : Nat → Int32} {i : Int} {μ : fr_Me} (h : fr_St μ) (hi : 0 ≤ i) (hiL : i + 6 ≤ L) (hL3 : L ≤ 384) (kk : ∀ m', fr_St m' → fr_L l κ b L xs 1390 [some (Value.ref b), some (fr_r κ 0), some (fr_r κ 66), some (fr_i i)] [] m') : fr_L l κ b L xs 522 [some (Value.ref b), some (fr_r κ 0), some (fr_r κ 66), some (fr_i i)] [] μ := by
  refine lx_al1 dL_law_522 ?_
  refine lx_call (mi' := fmX10_commons) dL_law_523 mlL_57 mvX10_commons ⟨10, _, ⟨by decide, by decide, rfl⟩, rfl, rfl⟩ (Nat.le_of_ble_eq_true rfl) (Nat.le_of_ble_eq_true rfl) (kcX10_commons h.2.1 h.1 h.n9 h.t10) rfl rfl (Nat.le_of_ble_eq_true rfl) (fun v m hq => ?_)
  obtain ⟨z, rfl, hq⟩ := hq
  have h1 : c_commons μ  z m := hq
  have ck := ck_commons h h1
  have hIm : fr_I (m 67) := by rw [ck 67 (by omega)]; exact h.1
  have hSm : fr_Sh m := h.2.2.2.2.1.keep (ck 75 (by omega)) (ck 76 (by omega)) (ck 77 (by omega))
  have e66 := ck 66 (by omega)
  have e68 := ck 68 (by omega)
  have hn := h.n60
  have hk1 := h.2.2.1.1
  refine lx_al2 dL_law_526 ?_
  refine lx_call (mi' := fmX11_commons) dL_law_527 mlL_61 mvX11_commons ⟨11, _, ⟨by decide, by decide, rfl⟩, rfl, rfl⟩ (Nat.le_of_ble_eq_true rfl) (Nat.le_of_ble_eq_true rfl) (kcX11_commons hIm rfl rfl (by rw [e66, e68]; exact h.2.2.2.1.2.2.1)) rfl rfl (Nat.le_of_ble_eq_true rfl) (fun v' m' hq' => ?_)
  obtain ⟨z', rfl, hq'⟩ := hq'
  have h2 : r_commons m  z' m' := hq'
  have hst := st_commons h h1 h2
  exact lx_cmp (tgt := 1390) dL_law_530 (by decide) hst.1 (kk m' hst.2)
set_option maxRecDepth 20000 in
theorem lc_count {l : Launch} {κ : fr_Ka} {b L : Nat} {xs : Nat → Int32} {i : Int} {μ : fr_Me} (h : fr_St μ) (hi : 0 ≤ i) (hiL : i + 6 ≤ L) (hL3 : L ≤ 384) (kk : ∀ m', fr_St m' → fr_L l κ b L xs 1390 [some (Value.ref b), some (fr_r κ 0), some (fr_r κ 66), some (fr_i i)] [] m') : fr_L l κ b L xs 535 [some (Value.ref b), some (fr_r κ 0), some (fr_r κ 66), some (fr_i i)] [] μ := by
  refine lx_al1 dL_law_535 ?_
  refine lx_al0 dL_law_536 ?_
  refine lx_il3 dL_law_537 ?_
  refine lx_iconst dL_law_538 ?_
  refine lx_iadd dL_law_539 ?_
  refine lx_at dL_law_540 (by omega) (by omega) hL3 ?_
  refine lx_call (mi' := fmX10_count) dL_law_541 mlL_62 mvX10_count ⟨10, _, ⟨by decide, by decide, rfl⟩, rfl, rfl⟩ (Nat.le_of_ble_eq_true rfl) (Nat.le_of_ble_eq_true rfl) (kcX10_count h.2.1 h.1 (sxr _ _)) rfl rfl (Nat.le_of_ble_eq_true rfl) (fun v m hq => ?_)
  obtain ⟨rfl, hm⟩ := hq
  have h1 : c_count μ (sx xs (i + 1)) _ m := ⟨rfl, hm⟩
  have ck := ck_count h h1
  have hIm : fr_I (m 67) := by rw [ck 67 (by omega)]; exact h.1
  have hSm : fr_Sh m := h.2.2.2.2.1.keep (ck 75 (by omega)) (ck 76 (by omega)) (ck 77 (by omega))
  have e66 := ck 66 (by omega)
  have e68 := ck 68 (by omega)
  have hn := h.n60
  have hk1 := h.2.2.1.1
  refine lx_al2 dL_law_544 ?_
  refine lx_al0 dL_law_545 ?_
  refine lx_il3 dL_law_546 ?_
  refine lx_iconst dL_law_547 ?_
  refine lx_iadd dL_law_548 ?_
  refine lx_at dL_law_549 (by omega) (by omega) hL3 ?_
  refine lx_call (mi' := fmX11_count) dL_law_550 mlL_65 mvX11_count ⟨11, _, ⟨by decide, by decide, rfl⟩, rfl, rfl⟩ (Nat.le_of_ble_eq_true rfl) (Nat.le_of_ble_eq_true rfl) (kcX11_count hIm (sxr _ _)) rfl rfl (Nat.le_of_ble_eq_true rfl) (fun v' m' hq' => ?_)
  obtain ⟨rfl, hm'⟩ := hq'
  have h2 : r_count m (sx xs (i + 1)) _ m' := ⟨rfl, hm'⟩
  have hst := st_count h h1 h2
  exact lx_cmp (tgt := 1390) dL_law_553 (by decide) hst.1 (kk m' hst.2)
set_option maxRecDepth 20000 in
theorem lc_bears {l : Launch} {κ : fr_Ka} {b L : Nat} {xs : Nat → Int32} {i : Int} {μ : fr_Me} (h : fr_St μ) (hi : 0 ≤ i) (hiL : i + 6 ≤ L) (hL3 : L ≤ 384) (kk : ∀ m', fr_St m' → fr_L l κ b L xs 1390 [some (Value.ref b), some (fr_r κ 0), some (fr_r κ 66), some (fr_i i)] [] m') : fr_L l κ b L xs 558 [some (Value.ref b), some (fr_r κ 0), some (fr_r κ 66), some (fr_i i)] [] μ := by
  refine lx_al1 dL_law_558 ?_
  refine lx_al0 dL_law_559 ?_
  refine lx_il3 dL_law_560 ?_
  refine lx_iconst dL_law_561 ?_
  refine lx_iadd dL_law_562 ?_
  refine lx_at dL_law_563 (by omega) (by omega) hL3 ?_
  refine lx_al0 dL_law_564 ?_
  refine lx_il3 dL_law_565 ?_
  refine lx_iconst dL_law_566 ?_
  refine lx_iadd dL_law_567 ?_
  refine lx_at dL_law_568 (by omega) (by omega) hL3 ?_
  refine lx_call (mi' := fmX10_bears) dL_law_569 mlL_66 mvX10_bears ⟨10, _, ⟨by decide, by decide, rfl⟩, rfl, rfl⟩ (Nat.le_of_ble_eq_true rfl) (Nat.le_of_ble_eq_true rfl) (kcX10_bears h.2.1 h.1 (sxr _ _) (sxr _ _)) rfl rfl (Nat.le_of_ble_eq_true rfl) (fun v m hq => ?_)
  obtain ⟨rfl, hm⟩ := hq
  have h1 : c_bears μ (sx xs (i + 1)) (sx xs (i + 2)) _ m := ⟨rfl, hm⟩
  have ck := ck_bears h h1
  have hIm : fr_I (m 67) := by rw [ck 67 (by omega)]; exact h.1
  have hSm : fr_Sh m := h.2.2.2.2.1.keep (ck 75 (by omega)) (ck 76 (by omega)) (ck 77 (by omega))
  have e66 := ck 66 (by omega)
  have e68 := ck 68 (by omega)
  have hn := h.n60
  have hk1 := h.2.2.1.1
  refine lx_al2 dL_law_572 ?_
  refine lx_al0 dL_law_573 ?_
  refine lx_il3 dL_law_574 ?_
  refine lx_iconst dL_law_575 ?_
  refine lx_iadd dL_law_576 ?_
  refine lx_at dL_law_577 (by omega) (by omega) hL3 ?_
  refine lx_al0 dL_law_578 ?_
  refine lx_il3 dL_law_579 ?_
  refine lx_iconst dL_law_580 ?_
  refine lx_iadd dL_law_581 ?_
  refine lx_at dL_law_582 (by omega) (by omega) hL3 ?_
  refine lx_call (mi' := fmX11_bears) dL_law_583 mlL_69 mvX11_bears ⟨11, _, ⟨by decide, by decide, rfl⟩, rfl, rfl⟩ (Nat.le_of_ble_eq_true rfl) (Nat.le_of_ble_eq_true rfl) (kcX11_bears hIm (sxr _ _) (sxr _ _)) rfl rfl (Nat.le_of_ble_eq_true rfl) (fun v' m' hq' => ?_)
  obtain ⟨rfl, hm'⟩ := hq'
  have h2 : r_bears m (sx xs (i + 1)) (sx xs (i + 2)) _ m' := ⟨rfl, hm'⟩
  have hst := st_bears h h1 h2
  exact lx_cmp (tgt := 1390) dL_law_586 (by decide) hst.1 (kk m' hst.2)
set_option maxRecDepth 20000 in
theorem lc_basket {l : Launch} {κ : fr_Ka} {b L : Nat} {xs : Nat → Int32} {i : Int} {μ : fr_Me} (h : fr_St μ) (hi : 0 ≤ i) (hiL : i + 6 ≤ L) (hL3 : L ≤ 384) (kk : ∀ m', fr_St m' → fr_L l κ b L xs 1390 [some (Value.ref b), some (fr_r κ 0), some (fr_r κ 66), some (fr_i i)] [] m') : fr_L l κ b L xs 591 [some (Value.ref b), some (fr_r κ 0), some (fr_r κ 66), some (fr_i i)] [] μ := by
  refine lx_al1 dL_law_591 ?_
  refine lx_al0 dL_law_592 ?_
  refine lx_il3 dL_law_593 ?_
  refine lx_iconst dL_law_594 ?_
  refine lx_iadd dL_law_595 ?_
  refine lx_at dL_law_596 (by omega) (by omega) hL3 ?_
  refine lx_al0 dL_law_597 ?_
  refine lx_il3 dL_law_598 ?_
  refine lx_iconst dL_law_599 ?_
  refine lx_iadd dL_law_600 ?_
  refine lx_at dL_law_601 (by omega) (by omega) hL3 ?_
  refine lx_call (mi' := fmX10_basket) dL_law_602 mlL_70 mvX10_basket ⟨10, _, ⟨by decide, by decide, rfl⟩, rfl, rfl⟩ (Nat.le_of_ble_eq_true rfl) (Nat.le_of_ble_eq_true rfl) (kcX10_basket h.2.1 h.1 (sxr _ _) (sxr _ _)) rfl rfl (Nat.le_of_ble_eq_true rfl) (fun v m hq => ?_)
  obtain ⟨rfl, hm⟩ := hq
  have h1 : c_basket μ (sx xs (i + 1)) (sx xs (i + 2)) _ m := ⟨rfl, hm⟩
  have ck := ck_basket h h1
  have hIm : fr_I (m 67) := by rw [ck 67 (by omega)]; exact h.1
  have hSm : fr_Sh m := h.2.2.2.2.1.keep (ck 75 (by omega)) (ck 76 (by omega)) (ck 77 (by omega))
  have e66 := ck 66 (by omega)
  have e68 := ck 68 (by omega)
  have hn := h.n60
  have hk1 := h.2.2.1.1
  refine lx_al2 dL_law_605 ?_
  refine lx_al0 dL_law_606 ?_
  refine lx_il3 dL_law_607 ?_
  refine lx_iconst dL_law_608 ?_
  refine lx_iadd dL_law_609 ?_
  refine lx_at dL_law_610 (by omega) (by omega) hL3 ?_
  refine lx_al0 dL_law_611 ?_
  refine lx_il3 dL_law_612 ?_
  refine lx_iconst dL_law_613 ?_
  refine lx_iadd dL_law_614 ?_
  refine lx_at dL_law_615 (by omega) (by omega) hL3 ?_
  refine lx_call (mi' := fmX11_basket) dL_law_616 mlL_73 mvX11_basket ⟨11, _, ⟨by decide, by decide, rfl⟩, rfl, rfl⟩ (Nat.le_of_ble_eq_true rfl) (Nat.le_of_ble_eq_true rfl) (kcX11_basket hIm (sxr _ _) (sxr _ _)) rfl rfl (Nat.le_of_ble_eq_true rfl) (fun v' m' hq' => ?_)
  obtain ⟨rfl, hm'⟩ := hq'
  have h2 : r_basket m (sx xs (i + 1)) (sx xs (i + 2)) _ m' := ⟨rfl, hm'⟩
  have hst := st_basket h h1 h2
  exact lx_cmp (tgt := 1390) dL_law_619 (by decide) hst.1 (kk m' hst.2)
set_option maxRecDepth 20000 in
theorem lc_value {l : Launch} {κ : fr_Ka} {b L : Nat} {xs : Nat → Int32} {i : Int} {μ : fr_Me} (h : fr_St μ) (hi : 0 ≤ i) (hiL : i + 6 ≤ L) (hL3 : L ≤ 384) (kk : ∀ m', fr_St m' → fr_L l κ b L xs 1390 [some (Value.ref b), some (fr_r κ 0), some (fr_r κ 66), some (fr_i i)] [] m') : fr_L l κ b L xs 624 [some (Value.ref b), some (fr_r κ 0), some (fr_r κ 66), some (fr_i i)] [] μ := by
  refine lx_al1 dL_law_624 ?_
  refine lx_al0 dL_law_625 ?_
  refine lx_il3 dL_law_626 ?_
  refine lx_iconst dL_law_627 ?_
  refine lx_iadd dL_law_628 ?_
  refine lx_at dL_law_629 (by omega) (by omega) hL3 ?_
  refine lx_call (mi' := fmX10_value) dL_law_630 mlL_74 mvX10_value ⟨10, _, ⟨by decide, by decide, rfl⟩, rfl, rfl⟩ (Nat.le_of_ble_eq_true rfl) (Nat.le_of_ble_eq_true rfl) (kcX10_value h.2.1 h.1 (sxr _ _)) rfl rfl (Nat.le_of_ble_eq_true rfl) (fun v m hq => ?_)
  obtain ⟨rfl, hm⟩ := hq
  have h1 : c_value μ (sx xs (i + 1)) _ m := ⟨rfl, hm⟩
  have ck := ck_value h h1
  have hIm : fr_I (m 67) := by rw [ck 67 (by omega)]; exact h.1
  have hSm : fr_Sh m := h.2.2.2.2.1.keep (ck 75 (by omega)) (ck 76 (by omega)) (ck 77 (by omega))
  have e66 := ck 66 (by omega)
  have e68 := ck 68 (by omega)
  have hn := h.n60
  have hk1 := h.2.2.1.1
  refine lx_al2 dL_law_633 ?_
  refine lx_al0 dL_law_634 ?_
  refine lx_il3 dL_law_635 ?_
  refine lx_iconst dL_law_636 ?_
  refine lx_iadd dL_law_637 ?_
  refine lx_at dL_law_638 (by omega) (by omega) hL3 ?_
  refine lx_call (mi' := fmX11_value) dL_law_639 mlL_77 mvX11_value ⟨11, _, ⟨by decide, by decide, rfl⟩, rfl, rfl⟩ (Nat.le_of_ble_eq_true rfl) (Nat.le_of_ble_eq_true rfl) (kcX11_value hIm (sxr _ _)) rfl rfl (Nat.le_of_ble_eq_true rfl) (fun v' m' hq' => ?_)
  obtain ⟨rfl, hm'⟩ := hq'
  have h2 : r_value m (sx xs (i + 1)) _ m' := ⟨rfl, hm'⟩
  have hst := st_value h h1 h2
  exact lx_cmp (tgt := 1390) dL_law_642 (by decide) hst.1 (kk m' hst.2)
set_option maxRecDepth 20000 in
theorem lc_year {l : Launch} {κ : fr_Ka} {b L : Nat} {xs : Nat → Int32} {i : Int} {μ : fr_Me} (h : fr_St μ) (hi : 0 ≤ i) (hiL : i + 6 ≤ L) (hL3 : L ≤ 384) (kk : ∀ m', fr_St m' → fr_L l κ b L xs 1390 [some (Value.ref b), some (fr_r κ 0), some (fr_r κ 66), some (fr_i i)] [] m') : fr_L l κ b L xs 647 [some (Value.ref b), some (fr_r κ 0), some (fr_r κ 66), some (fr_i i)] [] μ := by
  refine lx_al1 dL_law_647 ?_
  refine lx_call (mi' := fmX10_year) dL_law_648 mlL_78 mvX10_year ⟨10, _, ⟨by decide, by decide, rfl⟩, rfl, rfl⟩ (Nat.le_of_ble_eq_true rfl) (Nat.le_of_ble_eq_true rfl) (kcX10_year h.2.1 h.1) rfl rfl (Nat.le_of_ble_eq_true rfl) (fun v m hq => ?_)
  obtain ⟨z, rfl, hq⟩ := hq
  have h1 : c_year μ  z m := hq
  have ck := ck_year h h1
  have hIm : fr_I (m 67) := by rw [ck 67 (by omega)]; exact h.1
  have hSm : fr_Sh m := h.2.2.2.2.1.keep (ck 75 (by omega)) (ck 76 (by omega)) (ck 77 (by omega))
  have e66 := ck 66 (by omega)
  have e68 := ck 68 (by omega)
  have hn := h.n60
  have hk1 := h.2.2.1.1
  refine lx_al2 dL_law_651 ?_
  refine lx_call (mi' := fmX11_year) dL_law_652 mlL_81 mvX11_year ⟨11, _, ⟨by decide, by decide, rfl⟩, rfl, rfl⟩ (Nat.le_of_ble_eq_true rfl) (Nat.le_of_ble_eq_true rfl) (kcX11_year hIm) rfl rfl (Nat.le_of_ble_eq_true rfl) (fun v' m' hq' => ?_)
  obtain ⟨z', rfl, hq'⟩ := hq'
  have h2 : r_year m  z' m' := hq'
  have hst := st_year h h1 h2
  exact lx_cmp (tgt := 1390) dL_law_655 (by decide) hst.1 (kk m' hst.2)
set_option maxRecDepth 20000 in
theorem lc_seed {l : Launch} {κ : fr_Ka} {b L : Nat} {xs : Nat → Int32} {i : Int} {μ : fr_Me} (h : fr_St μ) (hi : 0 ≤ i) (hiL : i + 6 ≤ L) (hL3 : L ≤ 384) (kk : ∀ m', fr_St m' → fr_L l κ b L xs 1390 [some (Value.ref b), some (fr_r κ 0), some (fr_r κ 66), some (fr_i i)] [] m') : fr_L l κ b L xs 660 [some (Value.ref b), some (fr_r κ 0), some (fr_r κ 66), some (fr_i i)] [] μ := by
  refine lx_al1 dL_law_660 ?_
  refine lx_al0 dL_law_661 ?_
  refine lx_il3 dL_law_662 ?_
  refine lx_iconst dL_law_663 ?_
  refine lx_iadd dL_law_664 ?_
  refine lx_at dL_law_665 (by omega) (by omega) hL3 ?_
  refine lx_call (mi' := fmX10_seed) dL_law_666 mlL_82 mvX10_seed ⟨10, _, ⟨by decide, by decide, rfl⟩, rfl, rfl⟩ (Nat.le_of_ble_eq_true rfl) (Nat.le_of_ble_eq_true rfl) (kcX10_seed h.2.1 h.1 (sxr _ _)) rfl rfl (Nat.le_of_ble_eq_true rfl) (fun v m hq => ?_)
  obtain ⟨z, rfl, hq⟩ := hq
  have h1 : c_seed μ (sx xs (i + 1)) z m := hq
  have ck := ck_seed h h1
  have hIm : fr_I (m 67) := by rw [ck 67 (by omega)]; exact h.1
  have hSm : fr_Sh m := h.2.2.2.2.1.keep (ck 75 (by omega)) (ck 76 (by omega)) (ck 77 (by omega))
  have e66 := ck 66 (by omega)
  have e68 := ck 68 (by omega)
  have hn := h.n60
  have hk1 := h.2.2.1.1
  refine lx_al2 dL_law_669 ?_
  refine lx_al0 dL_law_670 ?_
  refine lx_il3 dL_law_671 ?_
  refine lx_iconst dL_law_672 ?_
  refine lx_iadd dL_law_673 ?_
  refine lx_at dL_law_674 (by omega) (by omega) hL3 ?_
  refine lx_call (mi' := fmX11_seed) dL_law_675 mlL_85 mvX11_seed ⟨11, _, ⟨by decide, by decide, rfl⟩, rfl, rfl⟩ (Nat.le_of_ble_eq_true rfl) (Nat.le_of_ble_eq_true rfl) (kcX11_seed (sxr _ _)) rfl rfl (Nat.le_of_ble_eq_true rfl) (fun v' m' hq' => ?_)
  obtain ⟨z', rfl, hq'⟩ := hq'
  have h2 : r_seed m (sx xs (i + 1)) z' m' := hq'
  have hst := st_seed (sxr _ _).2 h h1 h2
  exact lx_cmp (tgt := 1390) dL_law_678 (by decide) hst.1 (kk m' hst.2)
set_option maxRecDepth 20000 in
theorem lc_best {l : Launch} {κ : fr_Ka} {b L : Nat} {xs : Nat → Int32} {i : Int} {μ : fr_Me} (h : fr_St μ) (hi : 0 ≤ i) (hiL : i + 6 ≤ L) (hL3 : L ≤ 384) (kk : ∀ m', fr_St m' → fr_L l κ b L xs 1390 [some (Value.ref b), some (fr_r κ 0), some (fr_r κ 66), some (fr_i i)] [] m') : fr_L l κ b L xs 683 [some (Value.ref b), some (fr_r κ 0), some (fr_r κ 66), some (fr_i i)] [] μ := by
  refine lx_al1 dL_law_683 ?_
  refine lx_al0 dL_law_684 ?_
  refine lx_il3 dL_law_685 ?_
  refine lx_iconst dL_law_686 ?_
  refine lx_iadd dL_law_687 ?_
  refine lx_at dL_law_688 (by omega) (by omega) hL3 ?_
  refine lx_call (mi' := fmX10_best) dL_law_689 mlL_86 mvX10_best ⟨10, _, ⟨by decide, by decide, rfl⟩, rfl, rfl⟩ (Nat.le_of_ble_eq_true rfl) (Nat.le_of_ble_eq_true rfl) (kcX10_best h.2.1 h.1 (sxr _ _)) rfl rfl (Nat.le_of_ble_eq_true rfl) (fun v m hq => ?_)
  obtain ⟨z, rfl, hq⟩ := hq
  have h1 : c_best μ (sx xs (i + 1)) z m := hq
  have ck := ck_best h h1
  have hIm : fr_I (m 67) := by rw [ck 67 (by omega)]; exact h.1
  have hSm : fr_Sh m := h.2.2.2.2.1.keep (ck 75 (by omega)) (ck 76 (by omega)) (ck 77 (by omega))
  have e66 := ck 66 (by omega)
  have e68 := ck 68 (by omega)
  have hn := h.n60
  have hk1 := h.2.2.1.1
  refine lx_al2 dL_law_692 ?_
  refine lx_al0 dL_law_693 ?_
  refine lx_il3 dL_law_694 ?_
  refine lx_iconst dL_law_695 ?_
  refine lx_iadd dL_law_696 ?_
  refine lx_at dL_law_697 (by omega) (by omega) hL3 ?_
  refine lx_call (mi' := fmX11_best) dL_law_698 mlL_89 mvX11_best ⟨11, _, ⟨by decide, by decide, rfl⟩, rfl, rfl⟩ (Nat.le_of_ble_eq_true rfl) (Nat.le_of_ble_eq_true rfl) (kcX11_best hIm (sxr _ _)) rfl rfl (Nat.le_of_ble_eq_true rfl) (fun v' m' hq' => ?_)
  obtain ⟨z', rfl, hq'⟩ := hq'
  have h2 : r_best m (sx xs (i + 1)) z' m' := hq'
  have hst := st_best h h1 h2
  exact lx_cmp (tgt := 1390) dL_law_701 (by decide) hst.1 (kk m' hst.2)
set_option maxRecDepth 20000 in
theorem lc_worth {l : Launch} {κ : fr_Ka} {b L : Nat} {xs : Nat → Int32} {i : Int} {μ : fr_Me} (h : fr_St μ) (hi : 0 ≤ i) (hiL : i + 6 ≤ L) (hL3 : L ≤ 384) (kk : ∀ m', fr_St m' → fr_L l κ b L xs 1390 [some (Value.ref b), some (fr_r κ 0), some (fr_r κ 66), some (fr_i i)] [] m') : fr_L l κ b L xs 706 [some (Value.ref b), some (fr_r κ 0), some (fr_r κ 66), some (fr_i i)] [] μ := by
  refine lx_al1 dL_law_706 ?_
  refine lx_al0 dL_law_707 ?_
  refine lx_il3 dL_law_708 ?_
  refine lx_iconst dL_law_709 ?_
  refine lx_iadd dL_law_710 ?_
  refine lx_at dL_law_711 (by omega) (by omega) hL3 ?_
  refine lx_call (mi' := fmX10_worth) dL_law_712 mlL_90 mvX10_worth ⟨10, _, ⟨by decide, by decide, rfl⟩, rfl, rfl⟩ (Nat.le_of_ble_eq_true rfl) (Nat.le_of_ble_eq_true rfl) (kcX10_worth h.2.1 h.1 (sxr _ _)) rfl rfl (Nat.le_of_ble_eq_true rfl) (fun v m hq => ?_)
  obtain ⟨z, rfl, hq⟩ := hq
  have h1 : c_worth μ (sx xs (i + 1)) z m := hq
  have ck := ck_worth h h1
  have hIm : fr_I (m 67) := by rw [ck 67 (by omega)]; exact h.1
  have hSm : fr_Sh m := h.2.2.2.2.1.keep (ck 75 (by omega)) (ck 76 (by omega)) (ck 77 (by omega))
  have e66 := ck 66 (by omega)
  have e68 := ck 68 (by omega)
  have hn := h.n60
  have hk1 := h.2.2.1.1
  refine lx_al2 dL_law_715 ?_
  refine lx_al0 dL_law_716 ?_
  refine lx_il3 dL_law_717 ?_
  refine lx_iconst dL_law_718 ?_
  refine lx_iadd dL_law_719 ?_
  refine lx_at dL_law_720 (by omega) (by omega) hL3 ?_
  refine lx_call (mi' := fmX11_worth) dL_law_721 mlL_93 mvX11_worth ⟨11, _, ⟨by decide, by decide, rfl⟩, rfl, rfl⟩ (Nat.le_of_ble_eq_true rfl) (Nat.le_of_ble_eq_true rfl) (kcX11_worth hIm (sxr _ _)) rfl rfl (Nat.le_of_ble_eq_true rfl) (fun v' m' hq' => ?_)
  obtain ⟨z', rfl, hq'⟩ := hq'
  have h2 : r_worth m (sx xs (i + 1)) z' m' := hq'
  have hst := st_worth h h1 h2
  exact lx_cmp (tgt := 1390) dL_law_724 (by decide) hst.1 (kk m' hst.2)
set_option maxRecDepth 20000 in
theorem lc_game {l : Launch} {κ : fr_Ka} {b L : Nat} {xs : Nat → Int32} {i : Int} {μ : fr_Me} (h : fr_St μ) (hi : 0 ≤ i) (hiL : i + 6 ≤ L) (hL3 : L ≤ 384) (kk : ∀ m', fr_St m' → fr_L l κ b L xs 1390 [some (Value.ref b), some (fr_r κ 0), some (fr_r κ 66), some (fr_i i)] [] m') : fr_L l κ b L xs 729 [some (Value.ref b), some (fr_r κ 0), some (fr_r κ 66), some (fr_i i)] [] μ := by
  refine lx_al1 dL_law_729 ?_
  refine lx_al0 dL_law_730 ?_
  refine lx_il3 dL_law_731 ?_
  refine lx_iconst dL_law_732 ?_
  refine lx_iadd dL_law_733 ?_
  refine lx_at dL_law_734 (by omega) (by omega) hL3 ?_
  refine lx_call (mi' := fmX10_game) dL_law_735 mlL_94 mvX10_game ⟨10, _, ⟨by decide, by decide, rfl⟩, rfl, rfl⟩ (Nat.le_of_ble_eq_true rfl) (Nat.le_of_ble_eq_true rfl) (kcX10_game h.2.1 h.1 (sxr _ _)) rfl rfl (Nat.le_of_ble_eq_true rfl) (fun v m hq => ?_)
  obtain ⟨z, rfl, hq⟩ := hq
  have h1 : c_game μ (sx xs (i + 1)) z m := hq
  have ck := ck_game h h1
  have hIm : fr_I (m 67) := by rw [ck 67 (by omega)]; exact h.1
  have hSm : fr_Sh m := h.2.2.2.2.1.keep (ck 75 (by omega)) (ck 76 (by omega)) (ck 77 (by omega))
  have e66 := ck 66 (by omega)
  have e68 := ck 68 (by omega)
  have hn := h.n60
  have hk1 := h.2.2.1.1
  refine lx_al2 dL_law_738 ?_
  refine lx_al0 dL_law_739 ?_
  refine lx_il3 dL_law_740 ?_
  refine lx_iconst dL_law_741 ?_
  refine lx_iadd dL_law_742 ?_
  refine lx_at dL_law_743 (by omega) (by omega) hL3 ?_
  refine lx_call (mi' := fmX11_game) dL_law_744 mlL_97 mvX11_game ⟨11, _, ⟨by decide, by decide, rfl⟩, rfl, rfl⟩ (Nat.le_of_ble_eq_true rfl) (Nat.le_of_ble_eq_true rfl) (kcX11_game hIm (sxr _ _)) rfl rfl (Nat.le_of_ble_eq_true rfl) (fun v' m' hq' => ?_)
  obtain ⟨z', rfl, hq'⟩ := hq'
  have h2 : r_game m (sx xs (i + 1)) z' m' := hq'
  have hst := st_game h h1 h2
  exact lx_cmp (tgt := 1390) dL_law_747 (by decide) hst.1 (kk m' hst.2)
set_option maxRecDepth 20000 in
theorem lc_fences {l : Launch} {κ : fr_Ka} {b L : Nat} {xs : Nat → Int32} {i : Int} {μ : fr_Me} (h : fr_St μ) (hi : 0 ≤ i) (hiL : i + 6 ≤ L) (hL3 : L ≤ 384) (kk : ∀ m', fr_St m' → fr_L l κ b L xs 1390 [some (Value.ref b), some (fr_r κ 0), some (fr_r κ 66), some (fr_i i)] [] m') : fr_L l κ b L xs 752 [some (Value.ref b), some (fr_r κ 0), some (fr_r κ 66), some (fr_i i)] [] μ := by
  refine lx_al1 dL_law_752 ?_
  refine lx_al0 dL_law_753 ?_
  refine lx_il3 dL_law_754 ?_
  refine lx_iconst dL_law_755 ?_
  refine lx_iadd dL_law_756 ?_
  refine lx_at dL_law_757 (by omega) (by omega) hL3 ?_
  refine lx_al0 dL_law_758 ?_
  refine lx_il3 dL_law_759 ?_
  refine lx_iconst dL_law_760 ?_
  refine lx_iadd dL_law_761 ?_
  refine lx_at dL_law_762 (by omega) (by omega) hL3 ?_
  refine lx_call (mi' := fmX10_fences) dL_law_763 mlL_98 mvX10_fences ⟨10, _, ⟨by decide, by decide, rfl⟩, rfl, rfl⟩ (Nat.le_of_ble_eq_true rfl) (Nat.le_of_ble_eq_true rfl) (kcX10_fences h.2.1 h.1 (sxr _ _) (sxr _ _)) rfl rfl (Nat.le_of_ble_eq_true rfl) (fun v m hq => ?_)
  obtain ⟨z, rfl, hq⟩ := hq
  have h1 : c_fences μ (sx xs (i + 1)) (sx xs (i + 2)) z m := hq
  have ck := ck_fences h h1
  have hIm : fr_I (m 67) := by rw [ck 67 (by omega)]; exact h.1
  have hSm : fr_Sh m := h.2.2.2.2.1.keep (ck 75 (by omega)) (ck 76 (by omega)) (ck 77 (by omega))
  have e66 := ck 66 (by omega)
  have e68 := ck 68 (by omega)
  have hn := h.n60
  have hk1 := h.2.2.1.1
  refine lx_al2 dL_law_766 ?_
  refine lx_al0 dL_law_767 ?_
  refine lx_il3 dL_law_768 ?_
  refine lx_iconst dL_law_769 ?_
  refine lx_iadd dL_law_770 ?_
  refine lx_at dL_law_771 (by omega) (by omega) hL3 ?_
  refine lx_al0 dL_law_772 ?_
  refine lx_il3 dL_law_773 ?_
  refine lx_iconst dL_law_774 ?_
  refine lx_iadd dL_law_775 ?_
  refine lx_at dL_law_776 (by omega) (by omega) hL3 ?_
  refine lx_call (mi' := fmX11_fences) dL_law_777 mlL_101 mvX11_fences ⟨11, _, ⟨by decide, by decide, rfl⟩, rfl, rfl⟩ (Nat.le_of_ble_eq_true rfl) (Nat.le_of_ble_eq_true rfl) (kcX11_fences hIm (sxr _ _) (sxr _ _)) rfl rfl (Nat.le_of_ble_eq_true rfl) (fun v' m' hq' => ?_)
  obtain ⟨z', rfl, hq'⟩ := hq'
  have h2 : r_fences m (sx xs (i + 1)) (sx xs (i + 2)) z' m' := hq'
  have hst := st_fences h h1 h2
  exact lx_cmp (tgt := 1390) dL_law_780 (by decide) hst.1 (kk m' hst.2)
set_option maxRecDepth 20000 in
theorem lc_upper {l : Launch} {κ : fr_Ka} {b L : Nat} {xs : Nat → Int32} {i : Int} {μ : fr_Me} (h : fr_St μ) (hi : 0 ≤ i) (hiL : i + 6 ≤ L) (hL3 : L ≤ 384) (kk : ∀ m', fr_St m' → fr_L l κ b L xs 1390 [some (Value.ref b), some (fr_r κ 0), some (fr_r κ 66), some (fr_i i)] [] m') : fr_L l κ b L xs 785 [some (Value.ref b), some (fr_r κ 0), some (fr_r κ 66), some (fr_i i)] [] μ := by
  refine lx_al1 dL_law_785 ?_
  refine lx_call (mi' := fmX10_upper) dL_law_786 mlL_102 mvX10_upper ⟨10, _, ⟨by decide, by decide, rfl⟩, rfl, rfl⟩ (Nat.le_of_ble_eq_true rfl) (Nat.le_of_ble_eq_true rfl) (kcX10_upper h.2.1 h.1) rfl rfl (Nat.le_of_ble_eq_true rfl) (fun v m hq => ?_)
  obtain ⟨rfl, hm⟩ := hq
  have h1 : c_upper μ  _ m := ⟨rfl, hm⟩
  have ck := ck_upper h h1
  have hIm : fr_I (m 67) := by rw [ck 67 (by omega)]; exact h.1
  have hSm : fr_Sh m := h.2.2.2.2.1.keep (ck 75 (by omega)) (ck 76 (by omega)) (ck 77 (by omega))
  have e66 := ck 66 (by omega)
  have e68 := ck 68 (by omega)
  have hn := h.n60
  have hk1 := h.2.2.1.1
  refine lx_al2 dL_law_789 ?_
  refine lx_call (mi' := fmX11_upper) dL_law_790 mlL_105 mvX11_upper ⟨11, _, ⟨by decide, by decide, rfl⟩, rfl, rfl⟩ (Nat.le_of_ble_eq_true rfl) (Nat.le_of_ble_eq_true rfl) (kcX11_upper hIm) rfl rfl (Nat.le_of_ble_eq_true rfl) (fun v' m' hq' => ?_)
  obtain ⟨rfl, hm'⟩ := hq'
  have h2 : r_upper m  _ m' := ⟨rfl, hm'⟩
  have hst := st_upper h h1 h2
  exact lx_cmp (tgt := 1390) dL_law_793 (by decide) hst.1 (kk m' hst.2)
set_option maxRecDepth 20000 in
theorem lc_lower {l : Launch} {κ : fr_Ka} {b L : Nat} {xs : Nat → Int32} {i : Int} {μ : fr_Me} (h : fr_St μ) (hi : 0 ≤ i) (hiL : i + 6 ≤ L) (hL3 : L ≤ 384) (kk : ∀ m', fr_St m' → fr_L l κ b L xs 1390 [some (Value.ref b), some (fr_r κ 0), some (fr_r κ 66), some (fr_i i)] [] m') : fr_L l κ b L xs 798 [some (Value.ref b), some (fr_r κ 0), some (fr_r κ 66), some (fr_i i)] [] μ := by
  refine lx_al1 dL_law_798 ?_
  refine lx_call (mi' := fmX10_lower) dL_law_799 mlL_106 mvX10_lower ⟨10, _, ⟨by decide, by decide, rfl⟩, rfl, rfl⟩ (Nat.le_of_ble_eq_true rfl) (Nat.le_of_ble_eq_true rfl) (kcX10_lower h.2.1 h.1) rfl rfl (Nat.le_of_ble_eq_true rfl) (fun v m hq => ?_)
  obtain ⟨rfl, hm⟩ := hq
  have h1 : c_lower μ  _ m := ⟨rfl, hm⟩
  have ck := ck_lower h h1
  have hIm : fr_I (m 67) := by rw [ck 67 (by omega)]; exact h.1
  have hSm : fr_Sh m := h.2.2.2.2.1.keep (ck 75 (by omega)) (ck 76 (by omega)) (ck 77 (by omega))
  have e66 := ck 66 (by omega)
  have e68 := ck 68 (by omega)
  have hn := h.n60
  have hk1 := h.2.2.1.1
  refine lx_al2 dL_law_802 ?_
  refine lx_call (mi' := fmX11_lower) dL_law_803 mlL_109 mvX11_lower ⟨11, _, ⟨by decide, by decide, rfl⟩, rfl, rfl⟩ (Nat.le_of_ble_eq_true rfl) (Nat.le_of_ble_eq_true rfl) (kcX11_lower hIm) rfl rfl (Nat.le_of_ble_eq_true rfl) (fun v' m' hq' => ?_)
  obtain ⟨rfl, hm'⟩ := hq'
  have h2 : r_lower m  _ m' := ⟨rfl, hm'⟩
  have hst := st_lower h h1 h2
  exact lx_cmp (tgt := 1390) dL_law_806 (by decide) hst.1 (kk m' hst.2)
set_option maxRecDepth 20000 in
theorem lc_send {l : Launch} {κ : fr_Ka} {b L : Nat} {xs : Nat → Int32} {i : Int} {μ : fr_Me} (h : fr_St μ) (hi : 0 ≤ i) (hiL : i + 6 ≤ L) (hL3 : L ≤ 384) (kk : ∀ m', fr_St m' → fr_L l κ b L xs 1390 [some (Value.ref b), some (fr_r κ 0), some (fr_r κ 66), some (fr_i i)] [] m') : fr_L l κ b L xs 811 [some (Value.ref b), some (fr_r κ 0), some (fr_r κ 66), some (fr_i i)] [] μ := by
  refine lx_al1 dL_law_811 ?_
  refine lx_call (mi' := fmX10_send) dL_law_812 mlL_110 mvX10_send ⟨10, _, ⟨by decide, by decide, rfl⟩, rfl, rfl⟩ (Nat.le_of_ble_eq_true rfl) (Nat.le_of_ble_eq_true rfl) (kcX10_send h.2.1 h.1) rfl rfl (Nat.le_of_ble_eq_true rfl) (fun v m hq => ?_)
  obtain ⟨z, rfl, hq⟩ := hq
  have h1 : c_send μ  z m := hq
  have ck := ck_send h h1
  have hIm : fr_I (m 67) := by rw [ck 67 (by omega)]; exact h.1
  have hSm : fr_Sh m := h.2.2.2.2.1.keep (ck 75 (by omega)) (ck 76 (by omega)) (ck 77 (by omega))
  have e66 := ck 66 (by omega)
  have e68 := ck 68 (by omega)
  have hn := h.n60
  have hk1 := h.2.2.1.1
  refine lx_al2 dL_law_815 ?_
  refine lx_call (mi' := fmX11_send) dL_law_816 mlL_113 mvX11_send ⟨11, _, ⟨by decide, by decide, rfl⟩, rfl, rfl⟩ (Nat.le_of_ble_eq_true rfl) (Nat.le_of_ble_eq_true rfl) (kcX11_send hIm) rfl rfl (Nat.le_of_ble_eq_true rfl) (fun v' m' hq' => ?_)
  obtain ⟨z', rfl, hq'⟩ := hq'
  have h2 : r_send m  z' m' := hq'
  have hst := st_send h h1 h2
  exact lx_cmp (tgt := 1390) dL_law_819 (by decide) hst.1 (kk m' hst.2)
set_option maxRecDepth 20000 in
theorem lc_image {l : Launch} {κ : fr_Ka} {b L : Nat} {xs : Nat → Int32} {i : Int} {μ : fr_Me} (h : fr_St μ) (hi : 0 ≤ i) (hiL : i + 6 ≤ L) (hL3 : L ≤ 384) (kk : ∀ m', fr_St m' → fr_L l κ b L xs 1390 [some (Value.ref b), some (fr_r κ 0), some (fr_r κ 66), some (fr_i i)] [] m') : fr_L l κ b L xs 824 [some (Value.ref b), some (fr_r κ 0), some (fr_r κ 66), some (fr_i i)] [] μ := by
  refine lx_al1 dL_law_824 ?_
  refine lx_call (mi' := fmX10_image) dL_law_825 mlL_114 mvX10_image ⟨10, _, ⟨by decide, by decide, rfl⟩, rfl, rfl⟩ (Nat.le_of_ble_eq_true rfl) (Nat.le_of_ble_eq_true rfl) (kcX10_image h.2.1 h.1) rfl rfl (Nat.le_of_ble_eq_true rfl) (fun v m hq => ?_)
  obtain ⟨z, rfl, hq⟩ := hq
  have h1 : c_image μ  z m := hq
  have ck := ck_image h h1
  have hIm : fr_I (m 67) := by rw [ck 67 (by omega)]; exact h.1
  have hSm : fr_Sh m := h.2.2.2.2.1.keep (ck 75 (by omega)) (ck 76 (by omega)) (ck 77 (by omega))
  have e66 := ck 66 (by omega)
  have e68 := ck 68 (by omega)
  have hn := h.n60
  have hk1 := h.2.2.1.1
  refine lx_al2 dL_law_828 ?_
  refine lx_call (mi' := fmX11_image) dL_law_829 mlL_117 mvX11_image ⟨11, _, ⟨by decide, by decide, rfl⟩, rfl, rfl⟩ (Nat.le_of_ble_eq_true rfl) (Nat.le_of_ble_eq_true rfl) (kcX11_image) rfl rfl (Nat.le_of_ble_eq_true rfl) (fun v' m' hq' => ?_)
  obtain ⟨rfl, hm'⟩ := hq'
  have h2 : r_image m  _ m' := ⟨rfl, hm'⟩
  have hst := st_image h h1 h2
  exact lx_cmp (tgt := 1390) dL_law_832 (by decide) hst.1 (kk m' hst.2)
set_option maxRecDepth 20000 in
theorem lc_restore {l : Launch} {κ : fr_Ka} {b L : Nat} {xs : Nat → Int32} {i : Int} {μ : fr_Me} (h : fr_St μ) (hi : 0 ≤ i) (hiL : i + 6 ≤ L) (hL3 : L ≤ 384) (kk : ∀ m', fr_St m' → fr_L l κ b L xs 1390 [some (Value.ref b), some (fr_r κ 0), some (fr_r κ 66), some (fr_i i)] [] m') : fr_L l κ b L xs 837 [some (Value.ref b), some (fr_r κ 0), some (fr_r κ 66), some (fr_i i)] [] μ := by
  refine lx_al1 dL_law_837 ?_
  refine lx_call (mi' := fmX10_restore) dL_law_838 mlL_118 mvX10_restore ⟨10, _, ⟨by decide, by decide, rfl⟩, rfl, rfl⟩ (Nat.le_of_ble_eq_true rfl) (Nat.le_of_ble_eq_true rfl) (kcX10_restore h.k02 h.kb) rfl rfl (Nat.le_of_ble_eq_true rfl) (fun v m hq => ?_)
  obtain ⟨z, rfl, hq⟩ := hq
  have h1 : c_restore μ  z m := hq
  have ck := ck_restore h h1
  have hIm : fr_I (m 67) := by rw [ck 67 (by omega)]; exact h.1
  have hSm : fr_Sh m := h.2.2.2.2.1.keep (ck 75 (by omega)) (ck 76 (by omega)) (ck 77 (by omega))
  have e66 := ck 66 (by omega)
  have e68 := ck 68 (by omega)
  have hn := h.n60
  have hk1 := h.2.2.1.1
  refine lx_al2 dL_law_841 ?_
  refine lx_call (mi' := fmX11_restore) dL_law_842 mlL_121 mvX11_restore ⟨11, _, ⟨by decide, by decide, rfl⟩, rfl, rfl⟩ (Nat.le_of_ble_eq_true rfl) (Nat.le_of_ble_eq_true rfl) (kcX11_restore (by rw [e66]; omega)) rfl rfl (Nat.le_of_ble_eq_true rfl) (fun v' m' hq' => ?_)
  obtain ⟨z', rfl, hq'⟩ := hq'
  have h2 : r_restore m  z' m' := hq'
  have hst := st_restore h h1 h2
  exact lx_cmp (tgt := 1390) dL_law_845 (by decide) hst.1 (kk m' hst.2)
set_option maxRecDepth 20000 in
theorem lc_hired {l : Launch} {κ : fr_Ka} {b L : Nat} {xs : Nat → Int32} {i : Int} {μ : fr_Me} (h : fr_St μ) (hi : 0 ≤ i) (hiL : i + 6 ≤ L) (hL3 : L ≤ 384) (kk : ∀ m', fr_St m' → fr_L l κ b L xs 1390 [some (Value.ref b), some (fr_r κ 0), some (fr_r κ 66), some (fr_i i)] [] m') : fr_L l κ b L xs 850 [some (Value.ref b), some (fr_r κ 0), some (fr_r κ 66), some (fr_i i)] [] μ := by
  refine lx_al1 dL_law_850 ?_
  refine lx_al0 dL_law_851 ?_
  refine lx_il3 dL_law_852 ?_
  refine lx_iconst dL_law_853 ?_
  refine lx_iadd dL_law_854 ?_
  refine lx_at dL_law_855 (by omega) (by omega) hL3 ?_
  refine lx_al0 dL_law_856 ?_
  refine lx_il3 dL_law_857 ?_
  refine lx_iconst dL_law_858 ?_
  refine lx_iadd dL_law_859 ?_
  refine lx_at dL_law_860 (by omega) (by omega) hL3 ?_
  refine lx_al0 dL_law_861 ?_
  refine lx_il3 dL_law_862 ?_
  refine lx_iconst dL_law_863 ?_
  refine lx_iadd dL_law_864 ?_
  refine lx_at dL_law_865 (by omega) (by omega) hL3 ?_
  refine lx_al0 dL_law_866 ?_
  refine lx_il3 dL_law_867 ?_
  refine lx_iconst dL_law_868 ?_
  refine lx_iadd dL_law_869 ?_
  refine lx_at dL_law_870 (by omega) (by omega) hL3 ?_
  refine lx_call (mi' := fmX10_hired) dL_law_871 mlL_122 mvX10_hired ⟨10, _, ⟨by decide, by decide, rfl⟩, rfl, rfl⟩ (Nat.le_of_ble_eq_true rfl) (Nat.le_of_ble_eq_true rfl) (kcX10_hired h.2.1 h.1 h.sc (sxr _ _) (sxr _ _) (sxr _ _) (sxr _ _)) rfl rfl (Nat.le_of_ble_eq_true rfl) (fun v m hq => ?_)
  obtain ⟨z, rfl, hq⟩ := hq
  have h1 : c_hired μ (sx xs (i + 1)) (sx xs (i + 2)) (sx xs (i + 3)) (sx xs (i + 4)) z m := hq
  have ck := ck_hired h h1
  have hIm : fr_I (m 67) := by rw [ck 67 (by omega)]; exact h.1
  have hSm : fr_Sh m := h.2.2.2.2.1.keep (ck 75 (by omega)) (ck 76 (by omega)) (ck 77 (by omega))
  have e66 := ck 66 (by omega)
  have e68 := ck 68 (by omega)
  have hn := h.n60
  have hk1 := h.2.2.1.1
  refine lx_al2 dL_law_874 ?_
  refine lx_al0 dL_law_875 ?_
  refine lx_il3 dL_law_876 ?_
  refine lx_iconst dL_law_877 ?_
  refine lx_iadd dL_law_878 ?_
  refine lx_at dL_law_879 (by omega) (by omega) hL3 ?_
  refine lx_al0 dL_law_880 ?_
  refine lx_il3 dL_law_881 ?_
  refine lx_iconst dL_law_882 ?_
  refine lx_iadd dL_law_883 ?_
  refine lx_at dL_law_884 (by omega) (by omega) hL3 ?_
  refine lx_al0 dL_law_885 ?_
  refine lx_il3 dL_law_886 ?_
  refine lx_iconst dL_law_887 ?_
  refine lx_iadd dL_law_888 ?_
  refine lx_at dL_law_889 (by omega) (by omega) hL3 ?_
  refine lx_al0 dL_law_890 ?_
  refine lx_il3 dL_law_891 ?_
  refine lx_iconst dL_law_892 ?_
  refine lx_iadd dL_law_893 ?_
  refine lx_at dL_law_894 (by omega) (by omega) hL3 ?_
  refine lx_call (mi' := fmX11_hired) dL_law_895 mlL_125 mvX11_hired ⟨11, _, ⟨by decide, by decide, rfl⟩, rfl, rfl⟩ (Nat.le_of_ble_eq_true rfl) (Nat.le_of_ble_eq_true rfl) (kcX11_hired hIm hSm (sxr _ _) (sxr _ _) (sxr _ _) (sxr _ _)) rfl rfl (Nat.le_of_ble_eq_true rfl) (fun v' m' hq' => ?_)
  obtain ⟨z', rfl, hq'⟩ := hq'
  have h2 : r_hired m (sx xs (i + 1)) (sx xs (i + 2)) (sx xs (i + 3)) (sx xs (i + 4)) z' m' := hq'
  have hst := st_hired h h1 h2
  exact lx_cmp (tgt := 1390) dL_law_898 (by decide) hst.1 (kk m' hst.2)
set_option maxRecDepth 20000 in
theorem lc_night {l : Launch} {κ : fr_Ka} {b L : Nat} {xs : Nat → Int32} {i : Int} {μ : fr_Me} (h : fr_St μ) (hi : 0 ≤ i) (hiL : i + 6 ≤ L) (hL3 : L ≤ 384) (kk : ∀ m', fr_St m' → fr_L l κ b L xs 1390 [some (Value.ref b), some (fr_r κ 0), some (fr_r κ 66), some (fr_i i)] [] m') : fr_L l κ b L xs 903 [some (Value.ref b), some (fr_r κ 0), some (fr_r κ 66), some (fr_i i)] [] μ := by
  refine lx_al1 dL_law_903 ?_
  refine lx_al0 dL_law_904 ?_
  refine lx_il3 dL_law_905 ?_
  refine lx_iconst dL_law_906 ?_
  refine lx_iadd dL_law_907 ?_
  refine lx_at dL_law_908 (by omega) (by omega) hL3 ?_
  refine lx_al0 dL_law_909 ?_
  refine lx_il3 dL_law_910 ?_
  refine lx_iconst dL_law_911 ?_
  refine lx_iadd dL_law_912 ?_
  refine lx_at dL_law_913 (by omega) (by omega) hL3 ?_
  refine lx_al0 dL_law_914 ?_
  refine lx_il3 dL_law_915 ?_
  refine lx_iconst dL_law_916 ?_
  refine lx_iadd dL_law_917 ?_
  refine lx_at dL_law_918 (by omega) (by omega) hL3 ?_
  refine lx_al0 dL_law_919 ?_
  refine lx_il3 dL_law_920 ?_
  refine lx_iconst dL_law_921 ?_
  refine lx_iadd dL_law_922 ?_
  refine lx_at dL_law_923 (by omega) (by omega) hL3 ?_
  refine lx_call (mi' := fmX10_night) dL_law_924 mlL_126 mvX10_night ⟨10, _, ⟨by decide, by decide, rfl⟩, rfl, rfl⟩ (Nat.le_of_ble_eq_true rfl) (Nat.le_of_ble_eq_true rfl) (kcX10_night h.2.1 h.1 h.sc (sxr _ _) (sxr _ _) (sxr _ _) (sxr _ _)) rfl rfl (Nat.le_of_ble_eq_true rfl) (fun v m hq => ?_)
  obtain ⟨z, rfl, hq⟩ := hq
  have h1 : c_night μ (sx xs (i + 1)) (sx xs (i + 2)) (sx xs (i + 3)) (sx xs (i + 4)) z m := hq
  have ck := ck_night h h1
  have hIm : fr_I (m 67) := by rw [ck 67 (by omega)]; exact h.1
  have hSm : fr_Sh m := h.2.2.2.2.1.keep (ck 75 (by omega)) (ck 76 (by omega)) (ck 77 (by omega))
  have e66 := ck 66 (by omega)
  have e68 := ck 68 (by omega)
  have hn := h.n60
  have hk1 := h.2.2.1.1
  refine lx_al2 dL_law_927 ?_
  refine lx_al0 dL_law_928 ?_
  refine lx_il3 dL_law_929 ?_
  refine lx_iconst dL_law_930 ?_
  refine lx_iadd dL_law_931 ?_
  refine lx_at dL_law_932 (by omega) (by omega) hL3 ?_
  refine lx_al0 dL_law_933 ?_
  refine lx_il3 dL_law_934 ?_
  refine lx_iconst dL_law_935 ?_
  refine lx_iadd dL_law_936 ?_
  refine lx_at dL_law_937 (by omega) (by omega) hL3 ?_
  refine lx_al0 dL_law_938 ?_
  refine lx_il3 dL_law_939 ?_
  refine lx_iconst dL_law_940 ?_
  refine lx_iadd dL_law_941 ?_
  refine lx_at dL_law_942 (by omega) (by omega) hL3 ?_
  refine lx_al0 dL_law_943 ?_
  refine lx_il3 dL_law_944 ?_
  refine lx_iconst dL_law_945 ?_
  refine lx_iadd dL_law_946 ?_
  refine lx_at dL_law_947 (by omega) (by omega) hL3 ?_
  refine lx_call (mi' := fmX11_night) dL_law_948 mlL_129 mvX11_night ⟨11, _, ⟨by decide, by decide, rfl⟩, rfl, rfl⟩ (Nat.le_of_ble_eq_true rfl) (Nat.le_of_ble_eq_true rfl) (kcX11_night hIm hSm (sxr _ _) (sxr _ _) (sxr _ _) (sxr _ _)) rfl rfl (Nat.le_of_ble_eq_true rfl) (fun v' m' hq' => ?_)
  obtain ⟨z', rfl, hq'⟩ := hq'
  have h2 : r_night m (sx xs (i + 1)) (sx xs (i + 2)) (sx xs (i + 3)) (sx xs (i + 4)) z' m' := hq'
  have hst := st_night h h1 h2
  exact lx_cmp (tgt := 1390) dL_law_951 (by decide) hst.1 (kk m' hst.2)
set_option maxRecDepth 20000 in
theorem lc_pie {l : Launch} {κ : fr_Ka} {b L : Nat} {xs : Nat → Int32} {i : Int} {μ : fr_Me} (h : fr_St μ) (hi : 0 ≤ i) (hiL : i + 6 ≤ L) (hL3 : L ≤ 384) (kk : ∀ m', fr_St m' → fr_L l κ b L xs 1390 [some (Value.ref b), some (fr_r κ 0), some (fr_r κ 66), some (fr_i i)] [] m') : fr_L l κ b L xs 956 [some (Value.ref b), some (fr_r κ 0), some (fr_r κ 66), some (fr_i i)] [] μ := by
  refine lx_al1 dL_law_956 ?_
  refine lx_al0 dL_law_957 ?_
  refine lx_il3 dL_law_958 ?_
  refine lx_iconst dL_law_959 ?_
  refine lx_iadd dL_law_960 ?_
  refine lx_at dL_law_961 (by omega) (by omega) hL3 ?_
  refine lx_al0 dL_law_962 ?_
  refine lx_il3 dL_law_963 ?_
  refine lx_iconst dL_law_964 ?_
  refine lx_iadd dL_law_965 ?_
  refine lx_at dL_law_966 (by omega) (by omega) hL3 ?_
  refine lx_al0 dL_law_967 ?_
  refine lx_il3 dL_law_968 ?_
  refine lx_iconst dL_law_969 ?_
  refine lx_iadd dL_law_970 ?_
  refine lx_at dL_law_971 (by omega) (by omega) hL3 ?_
  refine lx_al0 dL_law_972 ?_
  refine lx_il3 dL_law_973 ?_
  refine lx_iconst dL_law_974 ?_
  refine lx_iadd dL_law_975 ?_
  refine lx_at dL_law_976 (by omega) (by omega) hL3 ?_
  refine lx_call (mi' := fmX10_pie) dL_law_977 mlL_130 mvX10_pie ⟨10, _, ⟨by decide, by decide, rfl⟩, rfl, rfl⟩ (Nat.le_of_ble_eq_true rfl) (Nat.le_of_ble_eq_true rfl) (kcX10_pie h.2.1 h.1 h.sc (sxr _ _) (sxr _ _) (sxr _ _) (sxr _ _)) rfl rfl (Nat.le_of_ble_eq_true rfl) (fun v m hq => ?_)
  obtain ⟨z, rfl, hq⟩ := hq
  have h1 : c_pie μ (sx xs (i + 1)) (sx xs (i + 2)) (sx xs (i + 3)) (sx xs (i + 4)) z m := hq
  have ck := ck_pie h h1
  have hIm : fr_I (m 67) := by rw [ck 67 (by omega)]; exact h.1
  have hSm : fr_Sh m := h.2.2.2.2.1.keep (ck 75 (by omega)) (ck 76 (by omega)) (ck 77 (by omega))
  have e66 := ck 66 (by omega)
  have e68 := ck 68 (by omega)
  have hn := h.n60
  have hk1 := h.2.2.1.1
  refine lx_al2 dL_law_980 ?_
  refine lx_al0 dL_law_981 ?_
  refine lx_il3 dL_law_982 ?_
  refine lx_iconst dL_law_983 ?_
  refine lx_iadd dL_law_984 ?_
  refine lx_at dL_law_985 (by omega) (by omega) hL3 ?_
  refine lx_al0 dL_law_986 ?_
  refine lx_il3 dL_law_987 ?_
  refine lx_iconst dL_law_988 ?_
  refine lx_iadd dL_law_989 ?_
  refine lx_at dL_law_990 (by omega) (by omega) hL3 ?_
  refine lx_al0 dL_law_991 ?_
  refine lx_il3 dL_law_992 ?_
  refine lx_iconst dL_law_993 ?_
  refine lx_iadd dL_law_994 ?_
  refine lx_at dL_law_995 (by omega) (by omega) hL3 ?_
  refine lx_al0 dL_law_996 ?_
  refine lx_il3 dL_law_997 ?_
  refine lx_iconst dL_law_998 ?_
  refine lx_iadd dL_law_999 ?_
  refine lx_at dL_law_1000 (by omega) (by omega) hL3 ?_
  refine lx_call (mi' := fmX11_pie) dL_law_1001 mlL_133 mvX11_pie ⟨11, _, ⟨by decide, by decide, rfl⟩, rfl, rfl⟩ (Nat.le_of_ble_eq_true rfl) (Nat.le_of_ble_eq_true rfl) (kcX11_pie hIm hSm (sxr _ _) (sxr _ _) (sxr _ _) (sxr _ _)) rfl rfl (Nat.le_of_ble_eq_true rfl) (fun v' m' hq' => ?_)
  obtain ⟨z', rfl, hq'⟩ := hq'
  have h2 : r_pie m (sx xs (i + 1)) (sx xs (i + 2)) (sx xs (i + 3)) (sx xs (i + 4)) z' m' := hq'
  have hst := st_pie h h1 h2
  exact lx_cmp (tgt := 1390) dL_law_1004 (by decide) hst.1 (kk m' hst.2)
set_option maxRecDepth 20000 in
theorem lc_earned {l : Launch} {κ : fr_Ka} {b L : Nat} {xs : Nat → Int32} {i : Int} {μ : fr_Me} (h : fr_St μ) (hi : 0 ≤ i) (hiL : i + 6 ≤ L) (hL3 : L ≤ 384) (kk : ∀ m', fr_St m' → fr_L l κ b L xs 1390 [some (Value.ref b), some (fr_r κ 0), some (fr_r κ 66), some (fr_i i)] [] m') : fr_L l κ b L xs 1009 [some (Value.ref b), some (fr_r κ 0), some (fr_r κ 66), some (fr_i i)] [] μ := by
  refine lx_al1 dL_law_1009 ?_
  refine lx_al0 dL_law_1010 ?_
  refine lx_il3 dL_law_1011 ?_
  refine lx_iconst dL_law_1012 ?_
  refine lx_iadd dL_law_1013 ?_
  refine lx_at dL_law_1014 (by omega) (by omega) hL3 ?_
  refine lx_al0 dL_law_1015 ?_
  refine lx_il3 dL_law_1016 ?_
  refine lx_iconst dL_law_1017 ?_
  refine lx_iadd dL_law_1018 ?_
  refine lx_at dL_law_1019 (by omega) (by omega) hL3 ?_
  refine lx_al0 dL_law_1020 ?_
  refine lx_il3 dL_law_1021 ?_
  refine lx_iconst dL_law_1022 ?_
  refine lx_iadd dL_law_1023 ?_
  refine lx_at dL_law_1024 (by omega) (by omega) hL3 ?_
  refine lx_al0 dL_law_1025 ?_
  refine lx_il3 dL_law_1026 ?_
  refine lx_iconst dL_law_1027 ?_
  refine lx_iadd dL_law_1028 ?_
  refine lx_at dL_law_1029 (by omega) (by omega) hL3 ?_
  refine lx_al0 dL_law_1030 ?_
  refine lx_il3 dL_law_1031 ?_
  refine lx_iconst dL_law_1032 ?_
  refine lx_iadd dL_law_1033 ?_
  refine lx_at dL_law_1034 (by omega) (by omega) hL3 ?_
  refine lx_call (mi' := fmX10_earned) dL_law_1035 mlL_134 mvX10_earned ⟨10, _, ⟨by decide, by decide, rfl⟩, rfl, rfl⟩ (Nat.le_of_ble_eq_true rfl) (Nat.le_of_ble_eq_true rfl) (kcX10_earned h.2.1 h.1 h.sc (sxr _ _) (sxr _ _) (sxr _ _) (sxr _ _) (sxr _ _)) rfl rfl (Nat.le_of_ble_eq_true rfl) (fun v m hq => ?_)
  obtain ⟨z, rfl, hq⟩ := hq
  have h1 : c_earned μ (sx xs (i + 1)) (sx xs (i + 2)) (sx xs (i + 3)) (sx xs (i + 4)) (sx xs (i + 5)) z m := hq
  have ck := ck_earned h h1
  have hIm : fr_I (m 67) := by rw [ck 67 (by omega)]; exact h.1
  have hSm : fr_Sh m := h.2.2.2.2.1.keep (ck 75 (by omega)) (ck 76 (by omega)) (ck 77 (by omega))
  have e66 := ck 66 (by omega)
  have e68 := ck 68 (by omega)
  have hn := h.n60
  have hk1 := h.2.2.1.1
  refine lx_al2 dL_law_1038 ?_
  refine lx_al0 dL_law_1039 ?_
  refine lx_il3 dL_law_1040 ?_
  refine lx_iconst dL_law_1041 ?_
  refine lx_iadd dL_law_1042 ?_
  refine lx_at dL_law_1043 (by omega) (by omega) hL3 ?_
  refine lx_al0 dL_law_1044 ?_
  refine lx_il3 dL_law_1045 ?_
  refine lx_iconst dL_law_1046 ?_
  refine lx_iadd dL_law_1047 ?_
  refine lx_at dL_law_1048 (by omega) (by omega) hL3 ?_
  refine lx_al0 dL_law_1049 ?_
  refine lx_il3 dL_law_1050 ?_
  refine lx_iconst dL_law_1051 ?_
  refine lx_iadd dL_law_1052 ?_
  refine lx_at dL_law_1053 (by omega) (by omega) hL3 ?_
  refine lx_al0 dL_law_1054 ?_
  refine lx_il3 dL_law_1055 ?_
  refine lx_iconst dL_law_1056 ?_
  refine lx_iadd dL_law_1057 ?_
  refine lx_at dL_law_1058 (by omega) (by omega) hL3 ?_
  refine lx_al0 dL_law_1059 ?_
  refine lx_il3 dL_law_1060 ?_
  refine lx_iconst dL_law_1061 ?_
  refine lx_iadd dL_law_1062 ?_
  refine lx_at dL_law_1063 (by omega) (by omega) hL3 ?_
  refine lx_call (mi' := fmX11_earned) dL_law_1064 mlL_138 mvX11_earned ⟨11, _, ⟨by decide, by decide, rfl⟩, rfl, rfl⟩ (Nat.le_of_ble_eq_true rfl) (Nat.le_of_ble_eq_true rfl) (kcX11_earned hIm hSm (sxr _ _) (sxr _ _) (sxr _ _) (sxr _ _) (sxr _ _)) rfl rfl (Nat.le_of_ble_eq_true rfl) (fun v' m' hq' => ?_)
  obtain ⟨z', rfl, hq'⟩ := hq'
  have h2 : r_earned m (sx xs (i + 1)) (sx xs (i + 2)) (sx xs (i + 3)) (sx xs (i + 4)) (sx xs (i + 5)) z' m' := hq'
  have hst := st_earned h h1 h2
  exact lx_cmp (tgt := 1390) dL_law_1067 (by decide) hst.1 (kk m' hst.2)
set_option maxRecDepth 20000 in
theorem lc_again {l : Launch} {κ : fr_Ka} {b L : Nat} {xs : Nat → Int32} {i : Int} {μ : fr_Me} (h : fr_St μ) (hi : 0 ≤ i) (hiL : i + 6 ≤ L) (hL3 : L ≤ 384) (kk : ∀ m', fr_St m' → fr_L l κ b L xs 1390 [some (Value.ref b), some (fr_r κ 0), some (fr_r κ 66), some (fr_i i)] [] m') : fr_L l κ b L xs 1072 [some (Value.ref b), some (fr_r κ 0), some (fr_r κ 66), some (fr_i i)] [] μ := by
  refine lx_al1 dL_law_1072 ?_
  refine lx_al0 dL_law_1073 ?_
  refine lx_il3 dL_law_1074 ?_
  refine lx_iconst dL_law_1075 ?_
  refine lx_iadd dL_law_1076 ?_
  refine lx_at dL_law_1077 (by omega) (by omega) hL3 ?_
  refine lx_al0 dL_law_1078 ?_
  refine lx_il3 dL_law_1079 ?_
  refine lx_iconst dL_law_1080 ?_
  refine lx_iadd dL_law_1081 ?_
  refine lx_at dL_law_1082 (by omega) (by omega) hL3 ?_
  refine lx_al0 dL_law_1083 ?_
  refine lx_il3 dL_law_1084 ?_
  refine lx_iconst dL_law_1085 ?_
  refine lx_iadd dL_law_1086 ?_
  refine lx_at dL_law_1087 (by omega) (by omega) hL3 ?_
  refine lx_al0 dL_law_1088 ?_
  refine lx_il3 dL_law_1089 ?_
  refine lx_iconst dL_law_1090 ?_
  refine lx_iadd dL_law_1091 ?_
  refine lx_at dL_law_1092 (by omega) (by omega) hL3 ?_
  refine lx_al0 dL_law_1093 ?_
  refine lx_il3 dL_law_1094 ?_
  refine lx_iconst dL_law_1095 ?_
  refine lx_iadd dL_law_1096 ?_
  refine lx_at dL_law_1097 (by omega) (by omega) hL3 ?_
  refine lx_call (mi' := fmX10_again) dL_law_1098 mlL_139 mvX10_again ⟨10, _, ⟨by decide, by decide, rfl⟩, rfl, rfl⟩ (Nat.le_of_ble_eq_true rfl) (Nat.le_of_ble_eq_true rfl) (kcX10_again h.2.1 h.1 h.sc (sxr _ _) (sxr _ _) (sxr _ _) (sxr _ _) (sxr _ _)) rfl rfl (Nat.le_of_ble_eq_true rfl) (fun v m hq => ?_)
  obtain ⟨z, rfl, hq⟩ := hq
  have h1 : c_again μ (sx xs (i + 1)) (sx xs (i + 2)) (sx xs (i + 3)) (sx xs (i + 4)) (sx xs (i + 5)) z m := hq
  have ck := ck_again h h1
  have hIm : fr_I (m 67) := by rw [ck 67 (by omega)]; exact h.1
  have hSm : fr_Sh m := h.2.2.2.2.1.keep (ck 75 (by omega)) (ck 76 (by omega)) (ck 77 (by omega))
  have e66 := ck 66 (by omega)
  have e68 := ck 68 (by omega)
  have hn := h.n60
  have hk1 := h.2.2.1.1
  refine lx_al2 dL_law_1101 ?_
  refine lx_al0 dL_law_1102 ?_
  refine lx_il3 dL_law_1103 ?_
  refine lx_iconst dL_law_1104 ?_
  refine lx_iadd dL_law_1105 ?_
  refine lx_at dL_law_1106 (by omega) (by omega) hL3 ?_
  refine lx_al0 dL_law_1107 ?_
  refine lx_il3 dL_law_1108 ?_
  refine lx_iconst dL_law_1109 ?_
  refine lx_iadd dL_law_1110 ?_
  refine lx_at dL_law_1111 (by omega) (by omega) hL3 ?_
  refine lx_al0 dL_law_1112 ?_
  refine lx_il3 dL_law_1113 ?_
  refine lx_iconst dL_law_1114 ?_
  refine lx_iadd dL_law_1115 ?_
  refine lx_at dL_law_1116 (by omega) (by omega) hL3 ?_
  refine lx_al0 dL_law_1117 ?_
  refine lx_il3 dL_law_1118 ?_
  refine lx_iconst dL_law_1119 ?_
  refine lx_iadd dL_law_1120 ?_
  refine lx_at dL_law_1121 (by omega) (by omega) hL3 ?_
  refine lx_al0 dL_law_1122 ?_
  refine lx_il3 dL_law_1123 ?_
  refine lx_iconst dL_law_1124 ?_
  refine lx_iadd dL_law_1125 ?_
  refine lx_at dL_law_1126 (by omega) (by omega) hL3 ?_
  refine lx_call (mi' := fmX11_again) dL_law_1127 mlL_142 mvX11_again ⟨11, _, ⟨by decide, by decide, rfl⟩, rfl, rfl⟩ (Nat.le_of_ble_eq_true rfl) (Nat.le_of_ble_eq_true rfl) (kcX11_again hIm hSm (sxr _ _) (sxr _ _) (sxr _ _) (sxr _ _) (sxr _ _)) rfl rfl (Nat.le_of_ble_eq_true rfl) (fun v' m' hq' => ?_)
  obtain ⟨z', rfl, hq'⟩ := hq'
  have h2 : r_again m (sx xs (i + 1)) (sx xs (i + 2)) (sx xs (i + 3)) (sx xs (i + 4)) (sx xs (i + 5)) z' m' := hq'
  have hst := st_again h h1 h2
  exact lx_cmp (tgt := 1390) dL_law_1130 (by decide) hst.1 (kk m' hst.2)
set_option maxRecDepth 20000 in
theorem lc_film {l : Launch} {κ : fr_Ka} {b L : Nat} {xs : Nat → Int32} {i : Int} {μ : fr_Me} (h : fr_St μ) (hi : 0 ≤ i) (hiL : i + 6 ≤ L) (hL3 : L ≤ 384) (kk : ∀ m', fr_St m' → fr_L l κ b L xs 1390 [some (Value.ref b), some (fr_r κ 0), some (fr_r κ 66), some (fr_i i)] [] m') : fr_L l κ b L xs 1135 [some (Value.ref b), some (fr_r κ 0), some (fr_r κ 66), some (fr_i i)] [] μ := by
  refine lx_al1 dL_law_1135 ?_
  refine lx_al0 dL_law_1136 ?_
  refine lx_il3 dL_law_1137 ?_
  refine lx_iconst dL_law_1138 ?_
  refine lx_iadd dL_law_1139 ?_
  refine lx_at dL_law_1140 (by omega) (by omega) hL3 ?_
  refine lx_al0 dL_law_1141 ?_
  refine lx_il3 dL_law_1142 ?_
  refine lx_iconst dL_law_1143 ?_
  refine lx_iadd dL_law_1144 ?_
  refine lx_at dL_law_1145 (by omega) (by omega) hL3 ?_
  refine lx_al0 dL_law_1146 ?_
  refine lx_il3 dL_law_1147 ?_
  refine lx_iconst dL_law_1148 ?_
  refine lx_iadd dL_law_1149 ?_
  refine lx_at dL_law_1150 (by omega) (by omega) hL3 ?_
  refine lx_call (mi' := fmX10_film) dL_law_1151 mlL_143 mvX10_film ⟨10, _, ⟨by decide, by decide, rfl⟩, rfl, rfl⟩ (Nat.le_of_ble_eq_true rfl) (Nat.le_of_ble_eq_true rfl) (kcX10_film h.2.1 h.1 h.sc (sxr _ _) (sxr _ _) (sxr _ _)) rfl rfl (Nat.le_of_ble_eq_true rfl) (fun v m hq => ?_)
  obtain ⟨z, rfl, hq⟩ := hq
  have h1 : c_film μ (sx xs (i + 1)) (sx xs (i + 2)) (sx xs (i + 3)) z m := hq
  have ck := ck_film h h1
  have hIm : fr_I (m 67) := by rw [ck 67 (by omega)]; exact h.1
  have hSm : fr_Sh m := h.2.2.2.2.1.keep (ck 75 (by omega)) (ck 76 (by omega)) (ck 77 (by omega))
  have e66 := ck 66 (by omega)
  have e68 := ck 68 (by omega)
  have hn := h.n60
  have hk1 := h.2.2.1.1
  refine lx_al2 dL_law_1154 ?_
  refine lx_al0 dL_law_1155 ?_
  refine lx_il3 dL_law_1156 ?_
  refine lx_iconst dL_law_1157 ?_
  refine lx_iadd dL_law_1158 ?_
  refine lx_at dL_law_1159 (by omega) (by omega) hL3 ?_
  refine lx_al0 dL_law_1160 ?_
  refine lx_il3 dL_law_1161 ?_
  refine lx_iconst dL_law_1162 ?_
  refine lx_iadd dL_law_1163 ?_
  refine lx_at dL_law_1164 (by omega) (by omega) hL3 ?_
  refine lx_al0 dL_law_1165 ?_
  refine lx_il3 dL_law_1166 ?_
  refine lx_iconst dL_law_1167 ?_
  refine lx_iadd dL_law_1168 ?_
  refine lx_at dL_law_1169 (by omega) (by omega) hL3 ?_
  refine lx_call (mi' := fmX11_film) dL_law_1170 mlL_146 mvX11_film ⟨11, _, ⟨by decide, by decide, rfl⟩, rfl, rfl⟩ (Nat.le_of_ble_eq_true rfl) (Nat.le_of_ble_eq_true rfl) (kcX11_film hIm hSm (sxr _ _) (sxr _ _) (sxr _ _)) rfl rfl (Nat.le_of_ble_eq_true rfl) (fun v' m' hq' => ?_)
  obtain ⟨z', rfl, hq'⟩ := hq'
  have h2 : r_film m (sx xs (i + 1)) (sx xs (i + 2)) (sx xs (i + 3)) z' m' := hq'
  have hst := st_film h h1 h2
  exact lx_cmp (tgt := 1390) dL_law_1173 (by decide) hst.1 (kk m' hst.2)
set_option maxRecDepth 20000 in
theorem lc_sheet {l : Launch} {κ : fr_Ka} {b L : Nat} {xs : Nat → Int32} {i : Int} {μ : fr_Me} (h : fr_St μ) (hi : 0 ≤ i) (hiL : i + 6 ≤ L) (hL3 : L ≤ 384) (kk : ∀ m', fr_St m' → fr_L l κ b L xs 1390 [some (Value.ref b), some (fr_r κ 0), some (fr_r κ 66), some (fr_i i)] [] m') : fr_L l κ b L xs 1178 [some (Value.ref b), some (fr_r κ 0), some (fr_r κ 66), some (fr_i i)] [] μ := by
  refine lx_al1 dL_law_1178 ?_
  refine lx_al0 dL_law_1179 ?_
  refine lx_il3 dL_law_1180 ?_
  refine lx_iconst dL_law_1181 ?_
  refine lx_iadd dL_law_1182 ?_
  refine lx_at dL_law_1183 (by omega) (by omega) hL3 ?_
  refine lx_al0 dL_law_1184 ?_
  refine lx_il3 dL_law_1185 ?_
  refine lx_iconst dL_law_1186 ?_
  refine lx_iadd dL_law_1187 ?_
  refine lx_at dL_law_1188 (by omega) (by omega) hL3 ?_
  refine lx_al0 dL_law_1189 ?_
  refine lx_il3 dL_law_1190 ?_
  refine lx_iconst dL_law_1191 ?_
  refine lx_iadd dL_law_1192 ?_
  refine lx_at dL_law_1193 (by omega) (by omega) hL3 ?_
  refine lx_call (mi' := fmX10_sheet) dL_law_1194 mlL_147 mvX10_sheet ⟨10, _, ⟨by decide, by decide, rfl⟩, rfl, rfl⟩ (Nat.le_of_ble_eq_true rfl) (Nat.le_of_ble_eq_true rfl) (kcX10_sheet (sxr _ _) (sxr _ _) (sxr _ _)) rfl rfl (Nat.le_of_ble_eq_true rfl) (fun v m hq => ?_)
  obtain ⟨z, rfl, hq⟩ := hq
  have h1 : c_sheet μ (sx xs (i + 1)) (sx xs (i + 2)) (sx xs (i + 3)) z m := hq
  have ck := ck_sheet h h1
  have hIm : fr_I (m 67) := by rw [ck 67 (by omega)]; exact h.1
  have hSm : fr_Sh m := h.2.2.2.2.1.keep (ck 75 (by omega)) (ck 76 (by omega)) (ck 77 (by omega))
  have e66 := ck 66 (by omega)
  have e68 := ck 68 (by omega)
  have hn := h.n60
  have hk1 := h.2.2.1.1
  refine lx_al2 dL_law_1197 ?_
  refine lx_al0 dL_law_1198 ?_
  refine lx_il3 dL_law_1199 ?_
  refine lx_iconst dL_law_1200 ?_
  refine lx_iadd dL_law_1201 ?_
  refine lx_at dL_law_1202 (by omega) (by omega) hL3 ?_
  refine lx_al0 dL_law_1203 ?_
  refine lx_il3 dL_law_1204 ?_
  refine lx_iconst dL_law_1205 ?_
  refine lx_iadd dL_law_1206 ?_
  refine lx_at dL_law_1207 (by omega) (by omega) hL3 ?_
  refine lx_al0 dL_law_1208 ?_
  refine lx_il3 dL_law_1209 ?_
  refine lx_iconst dL_law_1210 ?_
  refine lx_iadd dL_law_1211 ?_
  refine lx_at dL_law_1212 (by omega) (by omega) hL3 ?_
  refine lx_call (mi' := fmX11_sheet) dL_law_1213 mlL_150 mvX11_sheet ⟨11, _, ⟨by decide, by decide, rfl⟩, rfl, rfl⟩ (Nat.le_of_ble_eq_true rfl) (Nat.le_of_ble_eq_true rfl) (kcX11_sheet (sxr _ _) (sxr _ _) (sxr _ _)) rfl rfl (Nat.le_of_ble_eq_true rfl) (fun v' m' hq' => ?_)
  obtain ⟨z', rfl, hq'⟩ := hq'
  have h2 : r_sheet m (sx xs (i + 1)) (sx xs (i + 2)) (sx xs (i + 3)) z' m' := hq'
  have hst := st_sheet h h1 h2
  exact lx_cmp (tgt := 1390) dL_law_1216 (by decide) hst.1 (kk m' hst.2)
set_option maxRecDepth 20000 in
theorem lc_drop {l : Launch} {κ : fr_Ka} {b L : Nat} {xs : Nat → Int32} {i : Int} {μ : fr_Me} (h : fr_St μ) (hi : 0 ≤ i) (hiL : i + 6 ≤ L) (hL3 : L ≤ 384) (kk : ∀ m', fr_St m' → fr_L l κ b L xs 1390 [some (Value.ref b), some (fr_r κ 0), some (fr_r κ 66), some (fr_i i)] [] m') : fr_L l κ b L xs 1221 [some (Value.ref b), some (fr_r κ 0), some (fr_r κ 66), some (fr_i i)] [] μ := by
  refine lx_al1 dL_law_1221 ?_
  refine lx_al0 dL_law_1222 ?_
  refine lx_il3 dL_law_1223 ?_
  refine lx_iconst dL_law_1224 ?_
  refine lx_iadd dL_law_1225 ?_
  refine lx_at dL_law_1226 (by omega) (by omega) hL3 ?_
  refine lx_call (mi' := fmX10_drop) dL_law_1227 mlL_151 mvX10_drop ⟨10, _, ⟨by decide, by decide, rfl⟩, rfl, rfl⟩ (Nat.le_of_ble_eq_true rfl) (Nat.le_of_ble_eq_true rfl) (kcX10_drop h.sc (sxr _ _)) rfl rfl (Nat.le_of_ble_eq_true rfl) (fun v m hq => ?_)
  obtain ⟨z, rfl, hq⟩ := hq
  have h1 : c_drop μ (sx xs (i + 1)) z m := hq
  have ck := ck_drop h h1
  have hIm : fr_I (m 67) := by rw [ck 67 (by omega)]; exact h.1
  have hSm : fr_Sh m := h.2.2.2.2.1.keep (ck 75 (by omega)) (ck 76 (by omega)) (ck 77 (by omega))
  have e66 := ck 66 (by omega)
  have e68 := ck 68 (by omega)
  have hn := h.n60
  have hk1 := h.2.2.1.1
  refine lx_al2 dL_law_1230 ?_
  refine lx_al0 dL_law_1231 ?_
  refine lx_il3 dL_law_1232 ?_
  refine lx_iconst dL_law_1233 ?_
  refine lx_iadd dL_law_1234 ?_
  refine lx_at dL_law_1235 (by omega) (by omega) hL3 ?_
  refine lx_call (mi' := fmX11_drop) dL_law_1236 mlL_154 mvX11_drop ⟨11, _, ⟨by decide, by decide, rfl⟩, rfl, rfl⟩ (Nat.le_of_ble_eq_true rfl) (Nat.le_of_ble_eq_true rfl) (kcX11_drop hSm (sxr _ _)) rfl rfl (Nat.le_of_ble_eq_true rfl) (fun v' m' hq' => ?_)
  obtain ⟨z', rfl, hq'⟩ := hq'
  have h2 : r_drop m (sx xs (i + 1)) z' m' := hq'
  have hst := st_drop h h1 h2
  exact lx_cmp (tgt := 1390) dL_law_1239 (by decide) hst.1 (kk m' hst.2)
set_option maxRecDepth 20000 in
theorem lc_item {l : Launch} {κ : fr_Ka} {b L : Nat} {xs : Nat → Int32} {i : Int} {μ : fr_Me} (h : fr_St μ) (hi : 0 ≤ i) (hiL : i + 6 ≤ L) (hL3 : L ≤ 384) (kk : ∀ m', fr_St m' → fr_L l κ b L xs 1390 [some (Value.ref b), some (fr_r κ 0), some (fr_r κ 66), some (fr_i i)] [] m') : fr_L l κ b L xs 1244 [some (Value.ref b), some (fr_r κ 0), some (fr_r κ 66), some (fr_i i)] [] μ := by
  refine lx_al1 dL_law_1244 ?_
  refine lx_al0 dL_law_1245 ?_
  refine lx_il3 dL_law_1246 ?_
  refine lx_iconst dL_law_1247 ?_
  refine lx_iadd dL_law_1248 ?_
  refine lx_at dL_law_1249 (by omega) (by omega) hL3 ?_
  refine lx_al0 dL_law_1250 ?_
  refine lx_il3 dL_law_1251 ?_
  refine lx_iconst dL_law_1252 ?_
  refine lx_iadd dL_law_1253 ?_
  refine lx_at dL_law_1254 (by omega) (by omega) hL3 ?_
  refine lx_al0 dL_law_1255 ?_
  refine lx_il3 dL_law_1256 ?_
  refine lx_iconst dL_law_1257 ?_
  refine lx_iadd dL_law_1258 ?_
  refine lx_at dL_law_1259 (by omega) (by omega) hL3 ?_
  refine lx_al0 dL_law_1260 ?_
  refine lx_il3 dL_law_1261 ?_
  refine lx_iconst dL_law_1262 ?_
  refine lx_iadd dL_law_1263 ?_
  refine lx_at dL_law_1264 (by omega) (by omega) hL3 ?_
  refine lx_i2l dL_law_1265 (sxr _ _) ?_
  refine lx_bipush dL_law_1266 (by decide) ?_
  refine lx_lshlR dL_law_1268 ?_
  refine lx_al0 dL_law_1269 ?_
  refine lx_il3 dL_law_1270 ?_
  refine lx_iconst dL_law_1271 ?_
  refine lx_iadd dL_law_1272 ?_
  refine lx_at dL_law_1273 (by omega) (by omega) hL3 ?_
  refine lx_i2l dL_law_1274 (sxr _ _) ?_
  refine lx_ldc2 dL_law_1275 clL_155 ?_
  refine lx_landR dL_law_1278 ?_
  refine lx_lorR dL_law_1279 ?_
  refine lx_call (mi' := fmX10_item) dL_law_1280 mlL_157 mvX10_item ⟨10, _, ⟨by decide, by decide, rfl⟩, rfl, rfl⟩ (Nat.le_of_ble_eq_true rfl) (Nat.le_of_ble_eq_true rfl) (kcX10_item h.sc (sxr _ _) (sxr _ _) (sxr _ _)) rfl rfl (Nat.le_of_ble_eq_true rfl) (fun v m hq => ?_)
  obtain ⟨z, rfl, hq⟩ := hq
  have h1 : c_item μ (sx xs (i + 1)) (sx xs (i + 2)) (sx xs (i + 3)) _ z m := hq
  have ck := ck_item h h1
  have hIm : fr_I (m 67) := by rw [ck 67 (by omega)]; exact h.1
  have hSm : fr_Sh m := h.2.2.2.2.1.keep (ck 75 (by omega)) (ck 76 (by omega)) (ck 77 (by omega))
  have e66 := ck 66 (by omega)
  have e68 := ck 68 (by omega)
  have hn := h.n60
  have hk1 := h.2.2.1.1
  refine lx_al2 dL_law_1283 ?_
  refine lx_al0 dL_law_1284 ?_
  refine lx_il3 dL_law_1285 ?_
  refine lx_iconst dL_law_1286 ?_
  refine lx_iadd dL_law_1287 ?_
  refine lx_at dL_law_1288 (by omega) (by omega) hL3 ?_
  refine lx_al0 dL_law_1289 ?_
  refine lx_il3 dL_law_1290 ?_
  refine lx_iconst dL_law_1291 ?_
  refine lx_iadd dL_law_1292 ?_
  refine lx_at dL_law_1293 (by omega) (by omega) hL3 ?_
  refine lx_al0 dL_law_1294 ?_
  refine lx_il3 dL_law_1295 ?_
  refine lx_iconst dL_law_1296 ?_
  refine lx_iadd dL_law_1297 ?_
  refine lx_at dL_law_1298 (by omega) (by omega) hL3 ?_
  refine lx_al0 dL_law_1299 ?_
  refine lx_il3 dL_law_1300 ?_
  refine lx_iconst dL_law_1301 ?_
  refine lx_iadd dL_law_1302 ?_
  refine lx_at dL_law_1303 (by omega) (by omega) hL3 ?_
  refine lx_i2l dL_law_1304 (sxr _ _) ?_
  refine lx_bipush dL_law_1305 (by decide) ?_
  refine lx_lshlR dL_law_1307 ?_
  refine lx_al0 dL_law_1308 ?_
  refine lx_il3 dL_law_1309 ?_
  refine lx_iconst dL_law_1310 ?_
  refine lx_iadd dL_law_1311 ?_
  refine lx_at dL_law_1312 (by omega) (by omega) hL3 ?_
  refine lx_i2l dL_law_1313 (sxr _ _) ?_
  refine lx_ldc2 dL_law_1314 clL_155 ?_
  refine lx_landR dL_law_1317 ?_
  refine lx_lorR dL_law_1318 ?_
  refine lx_call (mi' := fmX11_item) dL_law_1319 mlL_161 mvX11_item ⟨11, _, ⟨by decide, by decide, rfl⟩, rfl, rfl⟩ (Nat.le_of_ble_eq_true rfl) (Nat.le_of_ble_eq_true rfl) (kcX11_item hSm (sxr _ _) (sxr _ _) (sxr _ _)) rfl rfl (Nat.le_of_ble_eq_true rfl) (fun v' m' hq' => ?_)
  obtain ⟨z', rfl, hq'⟩ := hq'
  have h2 : r_item m (sx xs (i + 1)) (sx xs (i + 2)) (sx xs (i + 3)) _ z' m' := hq'
  have hst := st_item (lor_rg _ _) h h1 h2
  exact lx_cmp (tgt := 1390) dL_law_1322 (by decide) hst.1 (kk m' hst.2)
set_option maxRecDepth 20000 in
theorem lc_copy {l : Launch} {κ : fr_Ka} {b L : Nat} {xs : Nat → Int32} {i : Int} {μ : fr_Me} (h : fr_St μ) (hi : 0 ≤ i) (hiL : i + 6 ≤ L) (hL3 : L ≤ 384) (kk : ∀ m', fr_St m' → fr_L l κ b L xs 1390 [some (Value.ref b), some (fr_r κ 0), some (fr_r κ 66), some (fr_i i)] [] m') : fr_L l κ b L xs 1327 [some (Value.ref b), some (fr_r κ 0), some (fr_r κ 66), some (fr_i i)] [] μ := by
  refine lx_al1 dL_law_1327 ?_
  refine lx_al0 dL_law_1328 ?_
  refine lx_il3 dL_law_1329 ?_
  refine lx_iconst dL_law_1330 ?_
  refine lx_iadd dL_law_1331 ?_
  refine lx_at dL_law_1332 (by omega) (by omega) hL3 ?_
  refine lx_al0 dL_law_1333 ?_
  refine lx_il3 dL_law_1334 ?_
  refine lx_iconst dL_law_1335 ?_
  refine lx_iadd dL_law_1336 ?_
  refine lx_at dL_law_1337 (by omega) (by omega) hL3 ?_
  refine lx_al0 dL_law_1338 ?_
  refine lx_il3 dL_law_1339 ?_
  refine lx_iconst dL_law_1340 ?_
  refine lx_iadd dL_law_1341 ?_
  refine lx_at dL_law_1342 (by omega) (by omega) hL3 ?_
  refine lx_al0 dL_law_1343 ?_
  refine lx_il3 dL_law_1344 ?_
  refine lx_iconst dL_law_1345 ?_
  refine lx_iadd dL_law_1346 ?_
  refine lx_at dL_law_1347 (by omega) (by omega) hL3 ?_
  refine lx_al0 dL_law_1348 ?_
  refine lx_il3 dL_law_1349 ?_
  refine lx_iconst dL_law_1350 ?_
  refine lx_iadd dL_law_1351 ?_
  refine lx_at dL_law_1352 (by omega) (by omega) hL3 ?_
  refine lx_call (mi' := fmX10_copy) dL_law_1353 mlL_162 mvX10_copy ⟨10, _, ⟨by decide, by decide, rfl⟩, rfl, rfl⟩ (Nat.le_of_ble_eq_true rfl) (Nat.le_of_ble_eq_true rfl) (kcX10_copy h.sc (sxr _ _) (sxr _ _) (sxr _ _) (sxr _ _) (sxr _ _)) rfl rfl (Nat.le_of_ble_eq_true rfl) (fun v m hq => ?_)
  obtain ⟨z, rfl, hq⟩ := hq
  have h1 : c_copy μ (sx xs (i + 1)) (sx xs (i + 2)) (sx xs (i + 3)) (sx xs (i + 4)) (sx xs (i + 5)) z m := hq
  have ck := ck_copy h h1
  have hIm : fr_I (m 67) := by rw [ck 67 (by omega)]; exact h.1
  have hSm : fr_Sh m := h.2.2.2.2.1.keep (ck 75 (by omega)) (ck 76 (by omega)) (ck 77 (by omega))
  have e66 := ck 66 (by omega)
  have e68 := ck 68 (by omega)
  have hn := h.n60
  have hk1 := h.2.2.1.1
  refine lx_al2 dL_law_1356 ?_
  refine lx_al0 dL_law_1357 ?_
  refine lx_il3 dL_law_1358 ?_
  refine lx_iconst dL_law_1359 ?_
  refine lx_iadd dL_law_1360 ?_
  refine lx_at dL_law_1361 (by omega) (by omega) hL3 ?_
  refine lx_al0 dL_law_1362 ?_
  refine lx_il3 dL_law_1363 ?_
  refine lx_iconst dL_law_1364 ?_
  refine lx_iadd dL_law_1365 ?_
  refine lx_at dL_law_1366 (by omega) (by omega) hL3 ?_
  refine lx_al0 dL_law_1367 ?_
  refine lx_il3 dL_law_1368 ?_
  refine lx_iconst dL_law_1369 ?_
  refine lx_iadd dL_law_1370 ?_
  refine lx_at dL_law_1371 (by omega) (by omega) hL3 ?_
  refine lx_al0 dL_law_1372 ?_
  refine lx_il3 dL_law_1373 ?_
  refine lx_iconst dL_law_1374 ?_
  refine lx_iadd dL_law_1375 ?_
  refine lx_at dL_law_1376 (by omega) (by omega) hL3 ?_
  refine lx_al0 dL_law_1377 ?_
  refine lx_il3 dL_law_1378 ?_
  refine lx_iconst dL_law_1379 ?_
  refine lx_iadd dL_law_1380 ?_
  refine lx_at dL_law_1381 (by omega) (by omega) hL3 ?_
  refine lx_call (mi' := fmX11_copy) dL_law_1382 mlL_165 mvX11_copy ⟨11, _, ⟨by decide, by decide, rfl⟩, rfl, rfl⟩ (Nat.le_of_ble_eq_true rfl) (Nat.le_of_ble_eq_true rfl) (kcX11_copy hSm (sxr _ _) (sxr _ _) (sxr _ _) (sxr _ _) (sxr _ _)) rfl rfl (Nat.le_of_ble_eq_true rfl) (fun v' m' hq' => ?_)
  obtain ⟨z', rfl, hq'⟩ := hq'
  have h2 : r_copy m (sx xs (i + 1)) (sx xs (i + 2)) (sx xs (i + 3)) (sx xs (i + 4)) (sx xs (i + 5)) z' m' := hq'
  have hst := st_copy h h1 h2
  exact lx_cmp (tgt := 1390) dL_law_1385 (by decide) hst.1 (kk m' hst.2)
theorem and63 (a : Int) : 0 ≤ fr_and a 63 ∧ fr_and a 63 ≤ 63 := by
  unfold fr_and
  have h3 : ((Int32.ofInt a &&& Int32.ofInt 63).toBitVec).toNat = (Int32.ofInt a).toBitVec.toNat % 64 := by
    rw [Int32.toBitVec_and, BitVec.toNat_and, show (Int32.ofInt 63).toBitVec.toNat = 63 from by decide]
    exact Nat.and_two_pow_sub_one_eq_mod _ 6
  have h4 : (Int32.ofInt a &&& Int32.ofInt 63).toInt = (((Int32.ofInt a &&& Int32.ofInt 63).toBitVec).toNat : Int) := nb_ti (by omega)
  rw [h4]; omega
theorem law_case {l : Launch} {κ : fr_Ka} {b L : Nat} {xs : Nat → Int32} {i : Int} {μ : fr_Me} (h : fr_St μ) (hi : 0 ≤ i) (hiL : i + 6 ≤ L) (hL3 : L ≤ 384) (kk : ∀ m', fr_St m' → fr_L l κ b L xs 1390 [some (Value.ref b), some (fr_r κ 0), some (fr_r κ 66), some (fr_i i)] [] m') : fr_L l κ b L xs 33 [some (Value.ref b), some (fr_r κ 0), some (fr_r κ 66), some (fr_i i)] [fr_i (fr_and (sx xs i) 63)] μ := by
  have hr := and63 (sx xs i)
  generalize fr_and (sx xs i) 63 = a at hr ⊢
  rcases (by omega : a = 0 ∨ a = 1 ∨ a = 2 ∨ a = 3 ∨ a = 4 ∨ a = 5 ∨ a = 6 ∨ a = 7 ∨ a = 8 ∨ a = 9 ∨ a = 10 ∨ a = 11 ∨ a = 12 ∨ a = 13 ∨ a = 14 ∨ a = 15 ∨ a = 16 ∨ a = 17 ∨ a = 18 ∨ a = 19 ∨ a = 20 ∨ a = 21 ∨ a = 22 ∨ a = 23 ∨ a = 24 ∨ a = 25 ∨ a = 26 ∨ a = 27 ∨ a = 28 ∨ a = 29 ∨ a = 30 ∨ a = 31 ∨ a = 32 ∨ a = 33 ∨ a = 34 ∨ a = 35 ∨ 35 < a) with q | q | q | q | q | q | q | q | q | q | q | q | q | q | q | q | q | q | q | q | q | q | q | q | q | q | q | q | q | q | q | q | q | q | q | q | q
  · exact lx_tswIn (tgt := 192) (off := 159) dL_law_33 (by omega) (by omega) (by omega) (by rw [q]; rfl) (by decide) (lc_tree h hi hiL hL3 kk)
  · exact lx_tswIn (tgt := 215) (off := 182) dL_law_33 (by omega) (by omega) (by omega) (by rw [q]; rfl) (by decide) (lc_cutting h hi hiL hL3 kk)
  · exact lx_tswIn (tgt := 238) (off := 205) dL_law_33 (by omega) (by omega) (by omega) (by rw [q]; rfl) (by decide) (lc_climber h hi hiL hL3 kk)
  · exact lx_tswIn (tgt := 291) (off := 258) dL_law_33 (by omega) (by omega) (by omega) (by rw [q]; rfl) (by decide) (lc_set h hi hiL hL3 kk)
  · exact lx_tswIn (tgt := 334) (off := 301) dL_law_33 (by omega) (by omega) (by omega) (by rw [q]; rfl) (by decide) (lc_told h hi hiL hL3 kk)
  · exact lx_tswIn (tgt := 367) (off := 334) dL_law_33 (by omega) (by omega) (by omega) (by rw [q]; rfl) (by decide) (lc_of h hi hiL hL3 kk)
  · exact lx_tswIn (tgt := 400) (off := 367) dL_law_33 (by omega) (by omega) (by omega) (by rw [q]; rfl) (by decide) (lc_price h hi hiL hL3 kk)
  · exact lx_tswIn (tgt := 433) (off := 400) dL_law_33 (by omega) (by omega) (by omega) (by rw [q]; rfl) (by decide) (lc_fence h hi hiL hL3 kk)
  · exact lx_tswIn (tgt := 466) (off := 433) dL_law_33 (by omega) (by omega) (by omega) (by rw [q]; rfl) (by decide) (lc_climb h hi hiL hL3 kk)
  · exact lx_tswIn (tgt := 499) (off := 466) dL_law_33 (by omega) (by omega) (by omega) (by rw [q]; rfl) (by decide) (lc_type h hi hiL hL3 kk)
  · exact lx_tswIn (tgt := 522) (off := 489) dL_law_33 (by omega) (by omega) (by omega) (by rw [q]; rfl) (by decide) (lc_commons h hi hiL hL3 kk)
  · exact lx_tswIn (tgt := 535) (off := 502) dL_law_33 (by omega) (by omega) (by omega) (by rw [q]; rfl) (by decide) (lc_count h hi hiL hL3 kk)
  · exact lx_tswIn (tgt := 558) (off := 525) dL_law_33 (by omega) (by omega) (by omega) (by rw [q]; rfl) (by decide) (lc_bears h hi hiL hL3 kk)
  · exact lx_tswIn (tgt := 591) (off := 558) dL_law_33 (by omega) (by omega) (by omega) (by rw [q]; rfl) (by decide) (lc_basket h hi hiL hL3 kk)
  · exact lx_tswIn (tgt := 624) (off := 591) dL_law_33 (by omega) (by omega) (by omega) (by rw [q]; rfl) (by decide) (lc_value h hi hiL hL3 kk)
  · exact lx_tswIn (tgt := 647) (off := 614) dL_law_33 (by omega) (by omega) (by omega) (by rw [q]; rfl) (by decide) (lc_year h hi hiL hL3 kk)
  · exact lx_tswIn (tgt := 660) (off := 627) dL_law_33 (by omega) (by omega) (by omega) (by rw [q]; rfl) (by decide) (lc_seed h hi hiL hL3 kk)
  · exact lx_tswIn (tgt := 683) (off := 650) dL_law_33 (by omega) (by omega) (by omega) (by rw [q]; rfl) (by decide) (lc_best h hi hiL hL3 kk)
  · exact lx_tswIn (tgt := 706) (off := 673) dL_law_33 (by omega) (by omega) (by omega) (by rw [q]; rfl) (by decide) (lc_worth h hi hiL hL3 kk)
  · exact lx_tswIn (tgt := 729) (off := 696) dL_law_33 (by omega) (by omega) (by omega) (by rw [q]; rfl) (by decide) (lc_game h hi hiL hL3 kk)
  · exact lx_tswIn (tgt := 752) (off := 719) dL_law_33 (by omega) (by omega) (by omega) (by rw [q]; rfl) (by decide) (lc_fences h hi hiL hL3 kk)
  · exact lx_tswIn (tgt := 785) (off := 752) dL_law_33 (by omega) (by omega) (by omega) (by rw [q]; rfl) (by decide) (lc_upper h hi hiL hL3 kk)
  · exact lx_tswIn (tgt := 798) (off := 765) dL_law_33 (by omega) (by omega) (by omega) (by rw [q]; rfl) (by decide) (lc_lower h hi hiL hL3 kk)
  · exact lx_tswIn (tgt := 811) (off := 778) dL_law_33 (by omega) (by omega) (by omega) (by rw [q]; rfl) (by decide) (lc_send h hi hiL hL3 kk)
  · exact lx_tswIn (tgt := 824) (off := 791) dL_law_33 (by omega) (by omega) (by omega) (by rw [q]; rfl) (by decide) (lc_image h hi hiL hL3 kk)
  · exact lx_tswIn (tgt := 837) (off := 804) dL_law_33 (by omega) (by omega) (by omega) (by rw [q]; rfl) (by decide) (lc_restore h hi hiL hL3 kk)
  · exact lx_tswIn (tgt := 850) (off := 817) dL_law_33 (by omega) (by omega) (by omega) (by rw [q]; rfl) (by decide) (lc_hired h hi hiL hL3 kk)
  · exact lx_tswIn (tgt := 903) (off := 870) dL_law_33 (by omega) (by omega) (by omega) (by rw [q]; rfl) (by decide) (lc_night h hi hiL hL3 kk)
  · exact lx_tswIn (tgt := 956) (off := 923) dL_law_33 (by omega) (by omega) (by omega) (by rw [q]; rfl) (by decide) (lc_pie h hi hiL hL3 kk)
  · exact lx_tswIn (tgt := 1009) (off := 976) dL_law_33 (by omega) (by omega) (by omega) (by rw [q]; rfl) (by decide) (lc_earned h hi hiL hL3 kk)
  · exact lx_tswIn (tgt := 1072) (off := 1039) dL_law_33 (by omega) (by omega) (by omega) (by rw [q]; rfl) (by decide) (lc_again h hi hiL hL3 kk)
  · exact lx_tswIn (tgt := 1135) (off := 1102) dL_law_33 (by omega) (by omega) (by omega) (by rw [q]; rfl) (by decide) (lc_film h hi hiL hL3 kk)
  · exact lx_tswIn (tgt := 1178) (off := 1145) dL_law_33 (by omega) (by omega) (by omega) (by rw [q]; rfl) (by decide) (lc_sheet h hi hiL hL3 kk)
  · exact lx_tswIn (tgt := 1221) (off := 1188) dL_law_33 (by omega) (by omega) (by omega) (by rw [q]; rfl) (by decide) (lc_drop h hi hiL hL3 kk)
  · exact lx_tswIn (tgt := 1244) (off := 1211) dL_law_33 (by omega) (by omega) (by omega) (by rw [q]; rfl) (by decide) (lc_item h hi hiL hL3 kk)
  · exact lx_tswIn (tgt := 1327) (off := 1294) dL_law_33 (by omega) (by omega) (by omega) (by rw [q]; rfl) (by decide) (lc_copy h hi hiL hL3 kk)
  · exact lx_tswOut (tgt := 1390) dL_law_33 (by omega) (Or.inr q) (by decide) (kk μ h)
set_option maxRecDepth 20000 in
theorem law_loop {l : Launch} {κ : fr_Ka} {b L : Nat} {xs : Nat → Int32} (hL3 : L ≤ 384) : ∀ μ, fr_St μ → fr_L l κ b L xs 18 [some (Value.ref b), some (fr_r κ 0), some (fr_r κ 66), some (fr_i 0)] [] μ := by
  refine fr_down (P := fun j : Nat => ∀ μ, fr_St μ → fr_L l κ b L xs 18 [some (Value.ref b), some (fr_r κ 0), some (fr_r κ 66), some (fr_i (6 * (j : Int)))] [] μ) 65 ?_ (fun j hj ih => ?_)
  · intro μ h
    refine lx_il3 dL_law_18 ?_
    refine lx_al0 dL_law_19 ?_
    refine lx_len dL_law_20 ?_
    refine lx_bipush dL_law_21 (by decide) ?_
    refine lx_isub dL_law_23 ?_
    refine lx_icmp_gt (tgt := 1396) dL_law_24 (by decide) (by omega) (by omega) (fun h1 => ?_) (fun h1 => ?_)
    · refine lx_iconst dL_law_1396 ?_
      exact lx_ret dL_law_1397
    · exfalso; omega
  · intro μ h
    refine lx_il3 dL_law_18 ?_
    refine lx_al0 dL_law_19 ?_
    refine lx_len dL_law_20 ?_
    refine lx_bipush dL_law_21 (by decide) ?_
    refine lx_isub dL_law_23 ?_
    refine lx_icmp_gt (tgt := 1396) dL_law_24 (by decide) (by omega) (by omega) (fun h1 => ?_) (fun h1 => ?_)
    · refine lx_iconst dL_law_1396 ?_
      exact lx_ret dL_law_1397
    · refine lx_al0 dL_law_27 ?_
      refine lx_il3 dL_law_28 ?_
      refine lx_at dL_law_29 (by omega) (by omega) hL3 ?_
      refine lx_bipush dL_law_30 (by decide) ?_
      refine lx_iand dL_law_32 ?_
      refine law_case h (by omega) (by omega) hL3 (fun m' h' => ?_)
      refine lx_ii3 dL_law_1390 rfl (Nat.le_of_ble_eq_true rfl) ?_
      refine lx_goto (tgt := 18) dL_law_1393 (by decide) ?_
      have K := ih m' h'
      rw [show (6 : Int) * ((j + 1 : Nat) : Int) = 6 * (j : Int) + 6 by omega] at K
      exact K
