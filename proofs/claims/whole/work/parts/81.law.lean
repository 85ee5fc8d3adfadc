/-! the law, a case at a time -/
theorem adrC_x {E : zE} : adrC E (0, 0, 0) = xadr E.2.2.1 (0, 0, 0) := if_pos (by decide)
theorem adrC_m {E : zE} : adrC E (100, 0, 0) = madr (E2 E).2.2.1 (0, 0, 0) := if_neg (by decide)
theorem okC_x : okC (0, 0, 0) := by unfold okC; rw [if_pos (by decide)]; exact ⟨by decide, rfl, rfl⟩
theorem okC_m : okC (100, 0, 0) := by unfold okC; rw [if_neg (by decide)]; exact ⟨rfl, rfl⟩
theorem CXv {q0 n : Nat} {sc : Nat → Int32} {l : Launch} {E : zE} {y : MethodName} {cc : ByteArray} {mL : Nat} {ret : Option FieldType} {d : Nat} {as : List Value} {F : zF} {M : zM} {post : Option Value → zF → Prop} (h : XM l E y cc mL ret d (.ref (xadr E.2.2.1 (0, 0, 0)) :: as) F post) : CM q0 n sc l E y cc mL ret d (.ref (adrC E (0, 0, 0)) :: as) (F, M) (fun v X => post v X.1 ∧ X.2 = M) := by
  rw [adrC_x]; exact CX h
theorem CYv {q0 n : Nat} {sc : Nat → Int32} {l : Launch} {E : zE} {y : MethodName} {cc : ByteArray} {mL : Nat} {ret : Option FieldType} {d : Nat} {as : List Value} {F : zF} {M : zM} {post : Option Value → zM → Prop} (h : MM l (E2 E) y cc mL ret d (.ref (madr (E2 E).2.2.1 (0, 0, 0)) :: as) M post) : CM q0 n sc l E y cc mL ret d (.ref (adrC E (100, 0, 0)) :: as) (F, M) (fun v X => post v X.2 ∧ X.1 = F) := by
  rw [adrC_m]; exact CY h
theorem RR.kd {N : Nat} {F : zF} {M : zM} (h : RR N F M) : ∀ j, j < nS (F.1 0).1 → ∃ k, k < 7 ∧ (F.1 0).1.2.1 j 0 = nI k := fun j hj => ((h.2.2.1.e h.2.1).1 j hj).1
theorem RR.kz {N : Nat} {F : zF} {M : zM} (h : RR N F M) : ¬ F.2.2.2 5 0 = 0 → gz (F.1 2).1 := by
  intro z
  rw [h.kp.1] at z
  obtain ⟨g, g1, -, g3, -⟩ := h.kp.2 z
  exact g3.z g1
theorem lg_self (x : Int64) : lg_cmp x x = 0 := by
  unfold lg_cmp
  rw [if_neg (show ¬ x > x from Int64.lt_irrefl), if_pos rfl]
set_option maxRecDepth 100000 in
set_option maxHeartbeats 4000000 in
theorem lw_0 {l : Launch} {E : zE} {K : zK} {R : Room} {s : State} {mL : Nat} {q0 n : Nat} {sc : Nat → Int32} {N : Nat} {F : zF} {M : zM} (C : zC (cell := cellC E) l E (adrC E) okC (xeu E) (evC q0 n sc E) (AC E) K cL_law RL R s mL) (hRm : 20 ≤ R.frames ∧ 2000 ≤ R.locals) (hn : n ≤ 3072) (h : RR N F M) (hN : N ≤ 98000000) {i : Nat} (hi : i + 6 ≤ n) (next : ∀ F2 M2, RR (N + 1500) F2 M2 → Z K (zPP E (adrC E) (cellC E) okC (evC q0 n sc E) (F2, M2) s) 1674 [(0, .ref q0), (1, .ref (adrC E (0, 0, 0))), (2, .ref (adrC E (100, 0, 0))), (3, .int (nI i))] []) : Z K (zPP E (adrC E) (cellC E) okC (evC q0 n sc E) (F, M) s) 228 [(0, .ref q0), (1, .ref (adrC E (0, 0, 0))), (2, .ref (adrC E (100, 0, 0))), (3, .int (nI i))] [] := by
  obtain ⟨hf, hl⟩ := hRm
  refine z_aload_n C 1 dL_law_228 rfl ?_
  refine z_aload_n C 0 dL_law_229 rfl ?_
  refine z_iload_n C 3 dL_law_230 rfl ?_
  refine z_iconst C (v := 1) dL_law_231 rfl ?_
  refine z_iadd C dL_law_232 ?_
  refine z_top (nI (i + 1)) (nI_add i 1) ?_
  refine z_tald C (i + 1) (fun H h => h.1.2) rfl (by omega) (by omega) rfl dL_law_233 ?_
  refine z_aload_n C 0 dL_law_234 rfl ?_
  refine z_iload_n C 3 dL_law_235 rfl ?_
  refine z_iconst C (v := 2) dL_law_236 rfl ?_
  refine z_iadd C dL_law_237 ?_
  refine z_top (nI (i + 2)) (nI_add i 2) ?_
  refine z_tald C (i + 2) (fun H h => h.1.2) rfl (by omega) (by omega) rfl dL_law_238 ?_
  refine z_aload_n C 0 dL_law_239 rfl ?_
  refine z_iload_n C 3 dL_law_240 rfl ?_
  refine z_iconst C (v := 3) dL_law_241 rfl ?_
  refine z_iadd C dL_law_242 ?_
  refine z_top (nI (i + 3)) (nI_add i 3) ?_
  refine z_tald C (i + 3) (fun H h => h.1.2) rfl (by omega) (by omega) rfl dL_law_243 ?_
  refine z_callV3 C (CXv (c_X6_row l E F (sc (i + 1)) (sc (i + 2)) (sc (i + 3)))) okC_x rfl rfl q_L_13 ⟨by omega, by omega⟩ (Nat.le_of_ble_eq_true rfl) dL_law_244 (fun v X hp => ?_)
  obtain ⟨F2, M1⟩ := X
  obtain ⟨hx, em⟩ := hp
  have em : M = M1 := em.symm
  subst em
  obtain ⟨hv, -⟩ := id hx
  subst hv
  refine z_aload_n C 2 dL_law_247 rfl ?_
  refine z_aload_n C 0 dL_law_248 rfl ?_
  refine z_iload_n C 3 dL_law_249 rfl ?_
  refine z_iconst C (v := 1) dL_law_250 rfl ?_
  refine z_iadd C dL_law_251 ?_
  refine z_top (nI (i + 1)) (nI_add i 1) ?_
  refine z_tald C (i + 1) (fun H h => h.1.2) rfl (by omega) (by omega) rfl dL_law_252 ?_
  refine z_aload_n C 0 dL_law_253 rfl ?_
  refine z_iload_n C 3 dL_law_254 rfl ?_
  refine z_iconst C (v := 2) dL_law_255 rfl ?_
  refine z_iadd C dL_law_256 ?_
  refine z_top (nI (i + 2)) (nI_add i 2) ?_
  refine z_tald C (i + 2) (fun H h => h.1.2) rfl (by omega) (by omega) rfl dL_law_257 ?_
  refine z_aload_n C 0 dL_law_258 rfl ?_
  refine z_iload_n C 3 dL_law_259 rfl ?_
  refine z_iconst C (v := 3) dL_law_260 rfl ?_
  refine z_iadd C dL_law_261 ?_
  refine z_top (nI (i + 3)) (nI_add i 3) ?_
  refine z_tald C (i + 3) (fun H h => h.1.2) rfl (by omega) (by omega) rfl dL_law_262 ?_
  refine z_callV3 C (CYv (c_X7_row l (E2 E) M (sc (i + 1)) (sc (i + 2)) (sc (i + 3)))) okC_m rfl rfl q_L_17 ⟨by omega, by omega⟩ (Nat.le_of_ble_eq_true rfl) dL_law_263 (fun v X hp => ?_)
  obtain ⟨F3, M2⟩ := X
  obtain ⟨hm, em⟩ := hp
  have em : F2 = F3 := em.symm
  subst em
  obtain ⟨hv, -⟩ := id hm
  subst hv
  obtain ⟨eq, hR⟩ := st_row h hN hx hm
  refine z_icmp_eq C 1674 dL_law_266 (by decide) (fun hh => ?_) (fun hh => ?_)
  · exact next _ _ (hR.up (by omega))
  · exact absurd (Value.int.inj (Option.some.inj eq)) hh
set_option maxRecDepth 100000 in
set_option maxHeartbeats 4000000 in
theorem lw_1 {l : Launch} {E : zE} {K : zK} {R : Room} {s : State} {mL : Nat} {q0 n : Nat} {sc : Nat → Int32} {N : Nat} {F : zF} {M : zM} (C : zC (cell := cellC E) l E (adrC E) okC (xeu E) (evC q0 n sc E) (AC E) K cL_law RL R s mL) (hRm : 20 ≤ R.frames ∧ 2000 ≤ R.locals) (hn : n ≤ 3072) (h : RR N F M) (hN : N ≤ 98000000) {i : Nat} (hi : i + 6 ≤ n) (next : ∀ F2 M2, RR (N + 1500) F2 M2 → Z K (zPP E (adrC E) (cellC E) okC (evC q0 n sc E) (F2, M2) s) 1674 [(0, .ref q0), (1, .ref (adrC E (0, 0, 0))), (2, .ref (adrC E (100, 0, 0))), (3, .int (nI i))] []) : Z K (zPP E (adrC E) (cellC E) okC (evC q0 n sc E) (F, M) s) 271 [(0, .ref q0), (1, .ref (adrC E (0, 0, 0))), (2, .ref (adrC E (100, 0, 0))), (3, .int (nI i))] [] := by
  obtain ⟨hf, hl⟩ := hRm
  refine z_aload_n C 1 dL_law_271 rfl ?_
  refine z_aload_n C 0 dL_law_272 rfl ?_
  refine z_iload_n C 3 dL_law_273 rfl ?_
  refine z_iconst C (v := 1) dL_law_274 rfl ?_
  refine z_iadd C dL_law_275 ?_
  refine z_top (nI (i + 1)) (nI_add i 1) ?_
  refine z_tald C (i + 1) (fun H h => h.1.2) rfl (by omega) (by omega) rfl dL_law_276 ?_
  refine z_aload_n C 0 dL_law_277 rfl ?_
  refine z_iload_n C 3 dL_law_278 rfl ?_
  refine z_iconst C (v := 2) dL_law_279 rfl ?_
  refine z_iadd C dL_law_280 ?_
  refine z_top (nI (i + 2)) (nI_add i 2) ?_
  refine z_tald C (i + 2) (fun H h => h.1.2) rfl (by omega) (by omega) rfl dL_law_281 ?_
  refine z_aload_n C 0 dL_law_282 rfl ?_
  refine z_iload_n C 3 dL_law_283 rfl ?_
  refine z_iconst C (v := 3) dL_law_284 rfl ?_
  refine z_iadd C dL_law_285 ?_
  refine z_top (nI (i + 3)) (nI_add i 3) ?_
  refine z_tald C (i + 3) (fun H h => h.1.2) rfl (by omega) (by omega) rfl dL_law_286 ?_
  refine z_i2l C dL_law_287 ?_
  refine z_bipush C (v := 32) dL_law_288 rfl ?_
  refine z_lshl C dL_law_290 ?_
  refine z_aload_n C 0 dL_law_291 rfl ?_
  refine z_iload_n C 3 dL_law_292 rfl ?_
  refine z_iconst C (v := 4) dL_law_293 rfl ?_
  refine z_iadd C dL_law_294 ?_
  refine z_top (nI (i + 4)) (nI_add i 4) ?_
  refine z_tald C (i + 4) (fun H h => h.1.2) rfl (by omega) (by omega) rfl dL_law_295 ?_
  refine z_i2l C dL_law_296 ?_
  refine z_ldc2 C dL_law_297 q_L_18 ?_
  refine z_land C dL_law_300 ?_
  refine z_lor C dL_law_301 ?_
  refine z_callV3 C (CXv (c_X6_set l E F h.1 (sc (i + 1)) (sc (i + 2)) _)) okC_x rfl rfl q_L_20 ⟨by omega, by omega⟩ (Nat.le_of_ble_eq_true rfl) dL_law_302 (fun v X hp => ?_)
  obtain ⟨F2, M1⟩ := X
  obtain ⟨hx, em⟩ := hp
  have em : M = M1 := em.symm
  subst em
  obtain ⟨hv, -⟩ := id hx
  subst hv
  refine z_aload_n C 2 dL_law_305 rfl ?_
  refine z_aload_n C 0 dL_law_306 rfl ?_
  refine z_iload_n C 3 dL_law_307 rfl ?_
  refine z_iconst C (v := 1) dL_law_308 rfl ?_
  refine z_iadd C dL_law_309 ?_
  refine z_top (nI (i + 1)) (nI_add i 1) ?_
  refine z_tald C (i + 1) (fun H h => h.1.2) rfl (by omega) (by omega) rfl dL_law_310 ?_
  refine z_aload_n C 0 dL_law_311 rfl ?_
  refine z_iload_n C 3 dL_law_312 rfl ?_
  refine z_iconst C (v := 2) dL_law_313 rfl ?_
  refine z_iadd C dL_law_314 ?_
  refine z_top (nI (i + 2)) (nI_add i 2) ?_
  refine z_tald C (i + 2) (fun H h => h.1.2) rfl (by omega) (by omega) rfl dL_law_315 ?_
  refine z_aload_n C 0 dL_law_316 rfl ?_
  refine z_iload_n C 3 dL_law_317 rfl ?_
  refine z_iconst C (v := 3) dL_law_318 rfl ?_
  refine z_iadd C dL_law_319 ?_
  refine z_top (nI (i + 3)) (nI_add i 3) ?_
  refine z_tald C (i + 3) (fun H h => h.1.2) rfl (by omega) (by omega) rfl dL_law_320 ?_
  refine z_i2l C dL_law_321 ?_
  refine z_bipush C (v := 32) dL_law_322 rfl ?_
  refine z_lshl C dL_law_324 ?_
  refine z_aload_n C 0 dL_law_325 rfl ?_
  refine z_iload_n C 3 dL_law_326 rfl ?_
  refine z_iconst C (v := 4) dL_law_327 rfl ?_
  refine z_iadd C dL_law_328 ?_
  refine z_top (nI (i + 4)) (nI_add i 4) ?_
  refine z_tald C (i + 4) (fun H h => h.1.2) rfl (by omega) (by omega) rfl dL_law_329 ?_
  refine z_i2l C dL_law_330 ?_
  refine z_ldc2 C dL_law_331 q_L_18 ?_
  refine z_land C dL_law_334 ?_
  refine z_lor C dL_law_335 ?_
  refine z_callV3 C (CYv (c_X7_set l (E2 E) M h.2.2.2.2.2.1 h.2.2.2.2.1 (sc (i + 1)) (sc (i + 2)) _)) okC_m rfl rfl q_L_24 ⟨by omega, by omega⟩ (Nat.le_of_ble_eq_true rfl) dL_law_336 (fun v X hp => ?_)
  obtain ⟨F3, M2⟩ := X
  obtain ⟨hm, em⟩ := hp
  have em : F2 = F3 := em.symm
  subst em
  obtain ⟨hv, -⟩ := id hm
  subst hv
  obtain ⟨eq, hR⟩ := st_set h hN hx hm
  refine z_icmp_eq C 1674 dL_law_339 (by decide) (fun hh => ?_) (fun hh => ?_)
  · exact next _ _ (hR.up (by omega))
  · exact absurd (Value.int.inj (Option.some.inj eq)) hh
set_option maxRecDepth 100000 in
set_option maxHeartbeats 4000000 in
theorem lw_2 {l : Launch} {E : zE} {K : zK} {R : Room} {s : State} {mL : Nat} {q0 n : Nat} {sc : Nat → Int32} {N : Nat} {F : zF} {M : zM} (C : zC (cell := cellC E) l E (adrC E) okC (xeu E) (evC q0 n sc E) (AC E) K cL_law RL R s mL) (hRm : 20 ≤ R.frames ∧ 2000 ≤ R.locals) (hn : n ≤ 3072) (h : RR N F M) (hN : N ≤ 98000000) {i : Nat} (hi : i + 6 ≤ n) (next : ∀ F2 M2, RR (N + 1500) F2 M2 → Z K (zPP E (adrC E) (cellC E) okC (evC q0 n sc E) (F2, M2) s) 1674 [(0, .ref q0), (1, .ref (adrC E (0, 0, 0))), (2, .ref (adrC E (100, 0, 0))), (3, .int (nI i))] []) : Z K (zPP E (adrC E) (cellC E) okC (evC q0 n sc E) (F, M) s) 344 [(0, .ref q0), (1, .ref (adrC E (0, 0, 0))), (2, .ref (adrC E (100, 0, 0))), (3, .int (nI i))] [] := by
  obtain ⟨hf, hl⟩ := hRm
  refine z_aload_n C 1 dL_law_344 rfl ?_
  refine z_aload_n C 0 dL_law_345 rfl ?_
  refine z_iload_n C 3 dL_law_346 rfl ?_
  refine z_iconst C (v := 1) dL_law_347 rfl ?_
  refine z_iadd C dL_law_348 ?_
  refine z_top (nI (i + 1)) (nI_add i 1) ?_
  refine z_tald C (i + 1) (fun H h => h.1.2) rfl (by omega) (by omega) rfl dL_law_349 ?_
  refine z_aload_n C 0 dL_law_350 rfl ?_
  refine z_iload_n C 3 dL_law_351 rfl ?_
  refine z_iconst C (v := 2) dL_law_352 rfl ?_
  refine z_iadd C dL_law_353 ?_
  refine z_top (nI (i + 2)) (nI_add i 2) ?_
  refine z_tald C (i + 2) (fun H h => h.1.2) rfl (by omega) (by omega) rfl dL_law_354 ?_
  refine z_aload_n C 0 dL_law_355 rfl ?_
  refine z_iload_n C 3 dL_law_356 rfl ?_
  refine z_iconst C (v := 3) dL_law_357 rfl ?_
  refine z_iadd C dL_law_358 ?_
  refine z_top (nI (i + 3)) (nI_add i 3) ?_
  refine z_tald C (i + 3) (fun H h => h.1.2) rfl (by omega) (by omega) rfl dL_law_359 ?_
  refine z_aload_n C 0 dL_law_360 rfl ?_
  refine z_iload_n C 3 dL_law_361 rfl ?_
  refine z_iconst C (v := 4) dL_law_362 rfl ?_
  refine z_iadd C dL_law_363 ?_
  refine z_top (nI (i + 4)) (nI_add i 4) ?_
  refine z_tald C (i + 4) (fun H h => h.1.2) rfl (by omega) (by omega) rfl dL_law_364 ?_
  refine z_aload_n C 0 dL_law_365 rfl ?_
  refine z_iload_n C 3 dL_law_366 rfl ?_
  refine z_iconst C (v := 5) dL_law_367 rfl ?_
  refine z_iadd C dL_law_368 ?_
  refine z_top (nI (i + 5)) (nI_add i 5) ?_
  refine z_tald C (i + 5) (fun H h => h.1.2) rfl (by omega) (by omega) rfl dL_law_369 ?_
  refine z_callV5 C (CXv (c_X6_copy l E F h.1 (sc (i + 1)) (sc (i + 2)) (sc (i + 3)) (sc (i + 4)) (sc (i + 5)))) okC_x rfl rfl q_L_25 ⟨by omega, by omega⟩ (Nat.le_of_ble_eq_true rfl) dL_law_370 (fun v X hp => ?_)
  obtain ⟨F2, M1⟩ := X
  obtain ⟨hx, em⟩ := hp
  have em : M = M1 := em.symm
  subst em
  obtain ⟨hv, -⟩ := id hx
  subst hv
  refine z_aload_n C 2 dL_law_373 rfl ?_
  refine z_aload_n C 0 dL_law_374 rfl ?_
  refine z_iload_n C 3 dL_law_375 rfl ?_
  refine z_iconst C (v := 1) dL_law_376 rfl ?_
  refine z_iadd C dL_law_377 ?_
  refine z_top (nI (i + 1)) (nI_add i 1) ?_
  refine z_tald C (i + 1) (fun H h => h.1.2) rfl (by omega) (by omega) rfl dL_law_378 ?_
  refine z_aload_n C 0 dL_law_379 rfl ?_
  refine z_iload_n C 3 dL_law_380 rfl ?_
  refine z_iconst C (v := 2) dL_law_381 rfl ?_
  refine z_iadd C dL_law_382 ?_
  refine z_top (nI (i + 2)) (nI_add i 2) ?_
  refine z_tald C (i + 2) (fun H h => h.1.2) rfl (by omega) (by omega) rfl dL_law_383 ?_
  refine z_aload_n C 0 dL_law_384 rfl ?_
  refine z_iload_n C 3 dL_law_385 rfl ?_
  refine z_iconst C (v := 3) dL_law_386 rfl ?_
  refine z_iadd C dL_law_387 ?_
  refine z_top (nI (i + 3)) (nI_add i 3) ?_
  refine z_tald C (i + 3) (fun H h => h.1.2) rfl (by omega) (by omega) rfl dL_law_388 ?_
  refine z_aload_n C 0 dL_law_389 rfl ?_
  refine z_iload_n C 3 dL_law_390 rfl ?_
  refine z_iconst C (v := 4) dL_law_391 rfl ?_
  refine z_iadd C dL_law_392 ?_
  refine z_top (nI (i + 4)) (nI_add i 4) ?_
  refine z_tald C (i + 4) (fun H h => h.1.2) rfl (by omega) (by omega) rfl dL_law_393 ?_
  refine z_aload_n C 0 dL_law_394 rfl ?_
  refine z_iload_n C 3 dL_law_395 rfl ?_
  refine z_iconst C (v := 5) dL_law_396 rfl ?_
  refine z_iadd C dL_law_397 ?_
  refine z_top (nI (i + 5)) (nI_add i 5) ?_
  refine z_tald C (i + 5) (fun H h => h.1.2) rfl (by omega) (by omega) rfl dL_law_398 ?_
  refine z_callV5 C (CYv (c_X7_copy l (E2 E) M h.hsz h.h012 (sc (i + 1)) (sc (i + 2)) (sc (i + 3)) (sc (i + 4)) (sc (i + 5)))) okC_m rfl rfl q_L_29 ⟨by omega, by omega⟩ (Nat.le_of_ble_eq_true rfl) dL_law_399 (fun v X hp => ?_)
  obtain ⟨F3, M2⟩ := X
  obtain ⟨hm, em⟩ := hp
  have em : F2 = F3 := em.symm
  subst em
  obtain ⟨hv, -⟩ := id hm
  subst hv
  obtain ⟨eq, hR⟩ := st_copy h hN hx hm
  refine z_icmp_eq C 1674 dL_law_402 (by decide) (fun hh => ?_) (fun hh => ?_)
  · exact next _ _ (hR.up (by omega))
  · exact absurd (Value.int.inj (Option.some.inj eq)) hh
set_option maxRecDepth 100000 in
set_option maxHeartbeats 4000000 in
theorem lw_3 {l : Launch} {E : zE} {K : zK} {R : Room} {s : State} {mL : Nat} {q0 n : Nat} {sc : Nat → Int32} {N : Nat} {F : zF} {M : zM} (C : zC (cell := cellC E) l E (adrC E) okC (xeu E) (evC q0 n sc E) (AC E) K cL_law RL R s mL) (hRm : 20 ≤ R.frames ∧ 2000 ≤ R.locals) (hn : n ≤ 3072) (h : RR N F M) (hN : N ≤ 98000000) {i : Nat} (hi : i + 6 ≤ n) (next : ∀ F2 M2, RR (N + 1500) F2 M2 → Z K (zPP E (adrC E) (cellC E) okC (evC q0 n sc E) (F2, M2) s) 1674 [(0, .ref q0), (1, .ref (adrC E (0, 0, 0))), (2, .ref (adrC E (100, 0, 0))), (3, .int (nI i))] []) : Z K (zPP E (adrC E) (cellC E) okC (evC q0 n sc E) (F, M) s) 407 [(0, .ref q0), (1, .ref (adrC E (0, 0, 0))), (2, .ref (adrC E (100, 0, 0))), (3, .int (nI i))] [] := by
  obtain ⟨hf, hl⟩ := hRm
  refine z_aload_n C 1 dL_law_407 rfl ?_
  refine z_aload_n C 0 dL_law_408 rfl ?_
  refine z_iload_n C 3 dL_law_409 rfl ?_
  refine z_iconst C (v := 1) dL_law_410 rfl ?_
  refine z_iadd C dL_law_411 ?_
  refine z_top (nI (i + 1)) (nI_add i 1) ?_
  refine z_tald C (i + 1) (fun H h => h.1.2) rfl (by omega) (by omega) rfl dL_law_412 ?_
  refine z_aload_n C 0 dL_law_413 rfl ?_
  refine z_iload_n C 3 dL_law_414 rfl ?_
  refine z_iconst C (v := 2) dL_law_415 rfl ?_
  refine z_iadd C dL_law_416 ?_
  refine z_top (nI (i + 2)) (nI_add i 2) ?_
  refine z_tald C (i + 2) (fun H h => h.1.2) rfl (by omega) (by omega) rfl dL_law_417 ?_
  refine z_callV2 C (CXv (c_X6_element l E F h.1 (sc (i + 1)) (sc (i + 2)))) okC_x rfl rfl q_L_30 ⟨by omega, by omega⟩ (Nat.le_of_ble_eq_true rfl) dL_law_418 (fun v X hp => ?_)
  obtain ⟨F2, M1⟩ := X
  obtain ⟨hx, em⟩ := hp
  have em : M = M1 := em.symm
  subst em
  obtain ⟨hv, -⟩ := id hx
  subst hv
  refine z_aload_n C 2 dL_law_421 rfl ?_
  refine z_aload_n C 0 dL_law_422 rfl ?_
  refine z_iload_n C 3 dL_law_423 rfl ?_
  refine z_iconst C (v := 1) dL_law_424 rfl ?_
  refine z_iadd C dL_law_425 ?_
  refine z_top (nI (i + 1)) (nI_add i 1) ?_
  refine z_tald C (i + 1) (fun H h => h.1.2) rfl (by omega) (by omega) rfl dL_law_426 ?_
  refine z_aload_n C 0 dL_law_427 rfl ?_
  refine z_iload_n C 3 dL_law_428 rfl ?_
  refine z_iconst C (v := 2) dL_law_429 rfl ?_
  refine z_iadd C dL_law_430 ?_
  refine z_top (nI (i + 2)) (nI_add i 2) ?_
  refine z_tald C (i + 2) (fun H h => h.1.2) rfl (by omega) (by omega) rfl dL_law_431 ?_
  refine z_callV2 C (CYv (c_X7_element l (E2 E) M h.2.2.2.2.2.1 (sc (i + 1)) (sc (i + 2)))) okC_m rfl rfl q_L_34 ⟨by omega, by omega⟩ (Nat.le_of_ble_eq_true rfl) dL_law_432 (fun v X hp => ?_)
  obtain ⟨F3, M2⟩ := X
  obtain ⟨hm, em⟩ := hp
  have em : F2 = F3 := em.symm
  subst em
  obtain ⟨hv, -⟩ := id hm
  subst hv
  obtain ⟨eq, hR⟩ := st_element h hN hx hm
  refine z_lcmp C dL_law_435 ?_
  refine z_if_eq C 1674 dL_law_436 (by decide) (fun hh => ?_) (fun hh => ?_)
  · exact next _ _ (hR.up (by omega))
  · exact absurd (by rw [Value.long.inj (Option.some.inj eq)]; exact lg_self _) hh
set_option maxRecDepth 100000 in
set_option maxHeartbeats 4000000 in
theorem lw_4 {l : Launch} {E : zE} {K : zK} {R : Room} {s : State} {mL : Nat} {q0 n : Nat} {sc : Nat → Int32} {N : Nat} {F : zF} {M : zM} (C : zC (cell := cellC E) l E (adrC E) okC (xeu E) (evC q0 n sc E) (AC E) K cL_law RL R s mL) (hRm : 20 ≤ R.frames ∧ 2000 ≤ R.locals) (hn : n ≤ 3072) (h : RR N F M) (hN : N ≤ 98000000) {i : Nat} (hi : i + 6 ≤ n) (next : ∀ F2 M2, RR (N + 1500) F2 M2 → Z K (zPP E (adrC E) (cellC E) okC (evC q0 n sc E) (F2, M2) s) 1674 [(0, .ref q0), (1, .ref (adrC E (0, 0, 0))), (2, .ref (adrC E (100, 0, 0))), (3, .int (nI i))] []) : Z K (zPP E (adrC E) (cellC E) okC (evC q0 n sc E) (F, M) s) 441 [(0, .ref q0), (1, .ref (adrC E (0, 0, 0))), (2, .ref (adrC E (100, 0, 0))), (3, .int (nI i))] [] := by
  obtain ⟨hf, hl⟩ := hRm
  refine z_aload_n C 1 dL_law_441 rfl ?_
  refine z_aload_n C 0 dL_law_442 rfl ?_
  refine z_iload_n C 3 dL_law_443 rfl ?_
  refine z_iconst C (v := 1) dL_law_444 rfl ?_
  refine z_iadd C dL_law_445 ?_
  refine z_top (nI (i + 1)) (nI_add i 1) ?_
  refine z_tald C (i + 1) (fun H h => h.1.2) rfl (by omega) (by omega) rfl dL_law_446 ?_
  refine z_aload_n C 0 dL_law_447 rfl ?_
  refine z_iload_n C 3 dL_law_448 rfl ?_
  refine z_iconst C (v := 2) dL_law_449 rfl ?_
  refine z_iadd C dL_law_450 ?_
  refine z_top (nI (i + 2)) (nI_add i 2) ?_
  refine z_tald C (i + 2) (fun H h => h.1.2) rfl (by omega) (by omega) rfl dL_law_451 ?_
  refine z_callV2 C (CXv (c_X6_show l E F h.1 (sc (i + 1)) (sc (i + 2)))) okC_x rfl rfl q_L_35 ⟨by omega, by omega⟩ (Nat.le_of_ble_eq_true rfl) dL_law_452 (fun v X hp => ?_)
  obtain ⟨F2, M1⟩ := X
  obtain ⟨hx, em⟩ := hp
  have em : M = M1 := em.symm
  subst em
  obtain ⟨hv, -⟩ := id hx
  subst hv
  refine z_aload_n C 2 dL_law_455 rfl ?_
  refine z_aload_n C 0 dL_law_456 rfl ?_
  refine z_iload_n C 3 dL_law_457 rfl ?_
  refine z_iconst C (v := 1) dL_law_458 rfl ?_
  refine z_iadd C dL_law_459 ?_
  refine z_top (nI (i + 1)) (nI_add i 1) ?_
  refine z_tald C (i + 1) (fun H h => h.1.2) rfl (by omega) (by omega) rfl dL_law_460 ?_
  refine z_aload_n C 0 dL_law_461 rfl ?_
  refine z_iload_n C 3 dL_law_462 rfl ?_
  refine z_iconst C (v := 2) dL_law_463 rfl ?_
  refine z_iadd C dL_law_464 ?_
  refine z_top (nI (i + 2)) (nI_add i 2) ?_
  refine z_tald C (i + 2) (fun H h => h.1.2) rfl (by omega) (by omega) rfl dL_law_465 ?_
  refine z_callV2 C (CYv (c_X7_show l (E2 E) M (sc (i + 1)) (sc (i + 2)))) okC_m rfl rfl q_L_39 ⟨by omega, by omega⟩ (Nat.le_of_ble_eq_true rfl) dL_law_466 (fun v X hp => ?_)
  obtain ⟨F3, M2⟩ := X
  obtain ⟨hm, em⟩ := hp
  have em : F2 = F3 := em.symm
  subst em
  obtain ⟨hv, -⟩ := id hm
  subst hv
  obtain ⟨eq, hR⟩ := st_show h hN hx hm
  refine z_icmp_eq C 1674 dL_law_469 (by decide) (fun hh => ?_) (fun hh => ?_)
  · exact next _ _ (hR.up (by omega))
  · exact absurd (Value.int.inj (Option.some.inj eq)) hh
set_option maxRecDepth 100000 in
set_option maxHeartbeats 4000000 in
theorem lw_5 {l : Launch} {E : zE} {K : zK} {R : Room} {s : State} {mL : Nat} {q0 n : Nat} {sc : Nat → Int32} {N : Nat} {F : zF} {M : zM} (C : zC (cell := cellC E) l E (adrC E) okC (xeu E) (evC q0 n sc E) (AC E) K cL_law RL R s mL) (hRm : 20 ≤ R.frames ∧ 2000 ≤ R.locals) (hn : n ≤ 3072) (h : RR N F M) (hN : N ≤ 98000000) {i : Nat} (hi : i + 6 ≤ n) (next : ∀ F2 M2, RR (N + 1500) F2 M2 → Z K (zPP E (adrC E) (cellC E) okC (evC q0 n sc E) (F2, M2) s) 1674 [(0, .ref q0), (1, .ref (adrC E (0, 0, 0))), (2, .ref (adrC E (100, 0, 0))), (3, .int (nI i))] []) : Z K (zPP E (adrC E) (cellC E) okC (evC q0 n sc E) (F, M) s) 474 [(0, .ref q0), (1, .ref (adrC E (0, 0, 0))), (2, .ref (adrC E (100, 0, 0))), (3, .int (nI i))] [] := by
  obtain ⟨hf, hl⟩ := hRm
  refine z_aload_n C 1 dL_law_474 rfl ?_
  refine z_aload_n C 0 dL_law_475 rfl ?_
  refine z_iload_n C 3 dL_law_476 rfl ?_
  refine z_iconst C (v := 1) dL_law_477 rfl ?_
  refine z_iadd C dL_law_478 ?_
  refine z_top (nI (i + 1)) (nI_add i 1) ?_
  refine z_tald C (i + 1) (fun H h => h.1.2) rfl (by omega) (by omega) rfl dL_law_479 ?_
  refine z_callV1 C (CXv (c_X6_holds l E F h.1 (sc (i + 1)))) okC_x rfl rfl q_L_40 ⟨by omega, by omega⟩ (Nat.le_of_ble_eq_true rfl) dL_law_480 (fun v X hp => ?_)
  obtain ⟨F2, M1⟩ := X
  obtain ⟨hx, em⟩ := hp
  have em : M = M1 := em.symm
  subst em
  obtain ⟨hv, -⟩ := id hx
  subst hv
  refine z_aload_n C 2 dL_law_483 rfl ?_
  refine z_aload_n C 0 dL_law_484 rfl ?_
  refine z_iload_n C 3 dL_law_485 rfl ?_
  refine z_iconst C (v := 1) dL_law_486 rfl ?_
  refine z_iadd C dL_law_487 ?_
  refine z_top (nI (i + 1)) (nI_add i 1) ?_
  refine z_tald C (i + 1) (fun H h => h.1.2) rfl (by omega) (by omega) rfl dL_law_488 ?_
  refine z_callV1 C (CYv (c_X7_holds l (E2 E) M (sc (i + 1)))) okC_m rfl rfl q_L_44 ⟨by omega, by omega⟩ (Nat.le_of_ble_eq_true rfl) dL_law_489 (fun v X hp => ?_)
  obtain ⟨F3, M2⟩ := X
  obtain ⟨hm, em⟩ := hp
  have em : F2 = F3 := em.symm
  subst em
  obtain ⟨hv, -⟩ := id hm
  subst hv
  obtain ⟨eq, hR⟩ := st_holds h hN hx hm
  refine z_icmp_eq C 1674 dL_law_492 (by decide) (fun hh => ?_) (fun hh => ?_)
  · exact next _ _ (hR.up (by omega))
  · exact absurd (Value.int.inj (Option.some.inj eq)) hh
set_option maxRecDepth 100000 in
set_option maxHeartbeats 4000000 in
theorem lw_6 {l : Launch} {E : zE} {K : zK} {R : Room} {s : State} {mL : Nat} {q0 n : Nat} {sc : Nat → Int32} {N : Nat} {F : zF} {M : zM} (C : zC (cell := cellC E) l E (adrC E) okC (xeu E) (evC q0 n sc E) (AC E) K cL_law RL R s mL) (hRm : 20 ≤ R.frames ∧ 2000 ≤ R.locals) (hn : n ≤ 3072) (h : RR N F M) (hN : N ≤ 98000000) {i : Nat} (hi : i + 6 ≤ n) (next : ∀ F2 M2, RR (N + 1500) F2 M2 → Z K (zPP E (adrC E) (cellC E) okC (evC q0 n sc E) (F2, M2) s) 1674 [(0, .ref q0), (1, .ref (adrC E (0, 0, 0))), (2, .ref (adrC E (100, 0, 0))), (3, .int (nI i))] []) : Z K (zPP E (adrC E) (cellC E) okC (evC q0 n sc E) (F, M) s) 497 [(0, .ref q0), (1, .ref (adrC E (0, 0, 0))), (2, .ref (adrC E (100, 0, 0))), (3, .int (nI i))] [] := by
  obtain ⟨hf, hl⟩ := hRm
  refine z_aload_n C 1 dL_law_497 rfl ?_
  refine z_aload_n C 0 dL_law_498 rfl ?_
  refine z_iload_n C 3 dL_law_499 rfl ?_
  refine z_iconst C (v := 1) dL_law_500 rfl ?_
  refine z_iadd C dL_law_501 ?_
  refine z_top (nI (i + 1)) (nI_add i 1) ?_
  refine z_tald C (i + 1) (fun H h => h.1.2) rfl (by omega) (by omega) rfl dL_law_502 ?_
  refine z_aload_n C 0 dL_law_503 rfl ?_
  refine z_iload_n C 3 dL_law_504 rfl ?_
  refine z_iconst C (v := 2) dL_law_505 rfl ?_
  refine z_iadd C dL_law_506 ?_
  refine z_top (nI (i + 2)) (nI_add i 2) ?_
  refine z_tald C (i + 2) (fun H h => h.1.2) rfl (by omega) (by omega) rfl dL_law_507 ?_
  refine z_callV2 C (CXv (c_X6_says l E F h.1 (sc (i + 1)) (sc (i + 2)))) okC_x rfl rfl q_L_45 ⟨by omega, by omega⟩ (Nat.le_of_ble_eq_true rfl) dL_law_508 (fun v X hp => ?_)
  obtain ⟨F2, M1⟩ := X
  obtain ⟨hx, em⟩ := hp
  have em : M = M1 := em.symm
  subst em
  obtain ⟨hv, -⟩ := id hx
  subst hv
  refine z_aload_n C 2 dL_law_511 rfl ?_
  refine z_aload_n C 0 dL_law_512 rfl ?_
  refine z_iload_n C 3 dL_law_513 rfl ?_
  refine z_iconst C (v := 1) dL_law_514 rfl ?_
  refine z_iadd C dL_law_515 ?_
  refine z_top (nI (i + 1)) (nI_add i 1) ?_
  refine z_tald C (i + 1) (fun H h => h.1.2) rfl (by omega) (by omega) rfl dL_law_516 ?_
  refine z_aload_n C 0 dL_law_517 rfl ?_
  refine z_iload_n C 3 dL_law_518 rfl ?_
  refine z_iconst C (v := 2) dL_law_519 rfl ?_
  refine z_iadd C dL_law_520 ?_
  refine z_top (nI (i + 2)) (nI_add i 2) ?_
  refine z_tald C (i + 2) (fun H h => h.1.2) rfl (by omega) (by omega) rfl dL_law_521 ?_
  refine z_callV2 C (CYv (c_X7_says l (E2 E) M h.z (h.2.2.1.sm (by omega)) h.h012 h.hsh (sc (i + 1)) (sc (i + 2)))) okC_m rfl rfl q_L_48 ⟨by omega, by omega⟩ (Nat.le_of_ble_eq_true rfl) dL_law_522 (fun v X hp => ?_)
  obtain ⟨F3, M2⟩ := X
  obtain ⟨hm, em⟩ := hp
  have em : F2 = F3 := em.symm
  subst em
  obtain ⟨hv, -⟩ := id hm
  subst hv
  obtain ⟨eq, hR⟩ := st_says h hN hx hm
  refine z_icmp_eq C 1674 dL_law_525 (by decide) (fun hh => ?_) (fun hh => ?_)
  · exact next _ _ (hR.up (by omega))
  · exact absurd (Value.int.inj (Option.some.inj eq)) hh
set_option maxRecDepth 100000 in
set_option maxHeartbeats 4000000 in
theorem lw_7 {l : Launch} {E : zE} {K : zK} {R : Room} {s : State} {mL : Nat} {q0 n : Nat} {sc : Nat → Int32} {N : Nat} {F : zF} {M : zM} (C : zC (cell := cellC E) l E (adrC E) okC (xeu E) (evC q0 n sc E) (AC E) K cL_law RL R s mL) (hRm : 20 ≤ R.frames ∧ 2000 ≤ R.locals) (hn : n ≤ 3072) (h : RR N F M) (hN : N ≤ 98000000) {i : Nat} (hi : i + 6 ≤ n) (next : ∀ F2 M2, RR (N + 1500) F2 M2 → Z K (zPP E (adrC E) (cellC E) okC (evC q0 n sc E) (F2, M2) s) 1674 [(0, .ref q0), (1, .ref (adrC E (0, 0, 0))), (2, .ref (adrC E (100, 0, 0))), (3, .int (nI i))] []) : Z K (zPP E (adrC E) (cellC E) okC (evC q0 n sc E) (F, M) s) 530 [(0, .ref q0), (1, .ref (adrC E (0, 0, 0))), (2, .ref (adrC E (100, 0, 0))), (3, .int (nI i))] [] := by
  obtain ⟨hf, hl⟩ := hRm
  refine z_aload_n C 1 dL_law_530 rfl ?_
  refine z_aload_n C 0 dL_law_531 rfl ?_
  refine z_iload_n C 3 dL_law_532 rfl ?_
  refine z_iconst C (v := 1) dL_law_533 rfl ?_
  refine z_iadd C dL_law_534 ?_
  refine z_top (nI (i + 1)) (nI_add i 1) ?_
  refine z_tald C (i + 1) (fun H h => h.1.2) rfl (by omega) (by omega) rfl dL_law_535 ?_
  refine z_aload_n C 0 dL_law_536 rfl ?_
  refine z_iload_n C 3 dL_law_537 rfl ?_
  refine z_iconst C (v := 2) dL_law_538 rfl ?_
  refine z_iadd C dL_law_539 ?_
  refine z_top (nI (i + 2)) (nI_add i 2) ?_
  refine z_tald C (i + 2) (fun H h => h.1.2) rfl (by omega) (by omega) rfl dL_law_540 ?_
  refine z_aload_n C 0 dL_law_541 rfl ?_
  refine z_iload_n C 3 dL_law_542 rfl ?_
  refine z_iconst C (v := 3) dL_law_543 rfl ?_
  refine z_iadd C dL_law_544 ?_
  refine z_top (nI (i + 3)) (nI_add i 3) ?_
  refine z_tald C (i + 3) (fun H h => h.1.2) rfl (by omega) (by omega) rfl dL_law_545 ?_
  refine z_callV3 C (CXv (c_X6_shop l E F h.1 (sc (i + 1)) (sc (i + 2)) (sc (i + 3)))) okC_x rfl rfl q_L_49 ⟨by omega, by omega⟩ (Nat.le_of_ble_eq_true rfl) dL_law_546 (fun v X hp => ?_)
  obtain ⟨F2, M1⟩ := X
  obtain ⟨hx, em⟩ := hp
  have em : M = M1 := em.symm
  subst em
  obtain ⟨hv, -⟩ := id hx
  subst hv
  refine z_aload_n C 2 dL_law_549 rfl ?_
  refine z_aload_n C 0 dL_law_550 rfl ?_
  refine z_iload_n C 3 dL_law_551 rfl ?_
  refine z_iconst C (v := 1) dL_law_552 rfl ?_
  refine z_iadd C dL_law_553 ?_
  refine z_top (nI (i + 1)) (nI_add i 1) ?_
  refine z_tald C (i + 1) (fun H h => h.1.2) rfl (by omega) (by omega) rfl dL_law_554 ?_
  refine z_aload_n C 0 dL_law_555 rfl ?_
  refine z_iload_n C 3 dL_law_556 rfl ?_
  refine z_iconst C (v := 2) dL_law_557 rfl ?_
  refine z_iadd C dL_law_558 ?_
  refine z_top (nI (i + 2)) (nI_add i 2) ?_
  refine z_tald C (i + 2) (fun H h => h.1.2) rfl (by omega) (by omega) rfl dL_law_559 ?_
  refine z_aload_n C 0 dL_law_560 rfl ?_
  refine z_iload_n C 3 dL_law_561 rfl ?_
  refine z_iconst C (v := 3) dL_law_562 rfl ?_
  refine z_iadd C dL_law_563 ?_
  refine z_top (nI (i + 3)) (nI_add i 3) ?_
  refine z_tald C (i + 3) (fun H h => h.1.2) rfl (by omega) (by omega) rfl dL_law_564 ?_
  refine z_callV3 C (CYv (c_X7_shop l (E2 E) M h.z (sc (i + 1)) (sc (i + 2)) (sc (i + 3)))) okC_m rfl rfl q_L_52 ⟨by omega, by omega⟩ (Nat.le_of_ble_eq_true rfl) dL_law_565 (fun v X hp => ?_)
  obtain ⟨F3, M2⟩ := X
  obtain ⟨hm, em⟩ := hp
  have em : F2 = F3 := em.symm
  subst em
  obtain ⟨hv, -⟩ := id hm
  subst hv
  obtain ⟨eq, hR⟩ := st_shop h hN hx hm
  refine z_icmp_eq C 1674 dL_law_568 (by decide) (fun hh => ?_) (fun hh => ?_)
  · exact next _ _ (hR.up (by omega))
  · exact absurd (Value.int.inj (Option.some.inj eq)) hh
set_option maxRecDepth 100000 in
set_option maxHeartbeats 4000000 in
theorem lw_8 {l : Launch} {E : zE} {K : zK} {R : Room} {s : State} {mL : Nat} {q0 n : Nat} {sc : Nat → Int32} {N : Nat} {F : zF} {M : zM} (C : zC (cell := cellC E) l E (adrC E) okC (xeu E) (evC q0 n sc E) (AC E) K cL_law RL R s mL) (hRm : 20 ≤ R.frames ∧ 2000 ≤ R.locals) (hn : n ≤ 3072) (h : RR N F M) (hN : N ≤ 98000000) {i : Nat} (hi : i + 6 ≤ n) (next : ∀ F2 M2, RR (N + 1500) F2 M2 → Z K (zPP E (adrC E) (cellC E) okC (evC q0 n sc E) (F2, M2) s) 1674 [(0, .ref q0), (1, .ref (adrC E (0, 0, 0))), (2, .ref (adrC E (100, 0, 0))), (3, .int (nI i))] []) : Z K (zPP E (adrC E) (cellC E) okC (evC q0 n sc E) (F, M) s) 573 [(0, .ref q0), (1, .ref (adrC E (0, 0, 0))), (2, .ref (adrC E (100, 0, 0))), (3, .int (nI i))] [] := by
  obtain ⟨hf, hl⟩ := hRm
  refine z_aload_n C 1 dL_law_573 rfl ?_
  refine z_aload_n C 0 dL_law_574 rfl ?_
  refine z_iload_n C 3 dL_law_575 rfl ?_
  refine z_iconst C (v := 1) dL_law_576 rfl ?_
  refine z_iadd C dL_law_577 ?_
  refine z_top (nI (i + 1)) (nI_add i 1) ?_
  refine z_tald C (i + 1) (fun H h => h.1.2) rfl (by omega) (by omega) rfl dL_law_578 ?_
  refine z_aload_n C 0 dL_law_579 rfl ?_
  refine z_iload_n C 3 dL_law_580 rfl ?_
  refine z_iconst C (v := 2) dL_law_581 rfl ?_
  refine z_iadd C dL_law_582 ?_
  refine z_top (nI (i + 2)) (nI_add i 2) ?_
  refine z_tald C (i + 2) (fun H h => h.1.2) rfl (by omega) (by omega) rfl dL_law_583 ?_
  refine z_callV2 C (CXv (c_X6_child l E F h.1 (sc (i + 1)) (sc (i + 2)))) okC_x rfl rfl q_L_53 ⟨by omega, by omega⟩ (Nat.le_of_ble_eq_true rfl) dL_law_584 (fun v X hp => ?_)
  obtain ⟨F2, M1⟩ := X
  obtain ⟨hx, em⟩ := hp
  have em : M = M1 := em.symm
  subst em
  obtain ⟨hv, -⟩ := id hx
  subst hv
  refine z_aload_n C 2 dL_law_587 rfl ?_
  refine z_aload_n C 0 dL_law_588 rfl ?_
  refine z_iload_n C 3 dL_law_589 rfl ?_
  refine z_iconst C (v := 1) dL_law_590 rfl ?_
  refine z_iadd C dL_law_591 ?_
  refine z_top (nI (i + 1)) (nI_add i 1) ?_
  refine z_tald C (i + 1) (fun H h => h.1.2) rfl (by omega) (by omega) rfl dL_law_592 ?_
  refine z_aload_n C 0 dL_law_593 rfl ?_
  refine z_iload_n C 3 dL_law_594 rfl ?_
  refine z_iconst C (v := 2) dL_law_595 rfl ?_
  refine z_iadd C dL_law_596 ?_
  refine z_top (nI (i + 2)) (nI_add i 2) ?_
  refine z_tald C (i + 2) (fun H h => h.1.2) rfl (by omega) (by omega) rfl dL_law_597 ?_
  refine z_callV2 C (CYv (c_X7_child l (E2 E) M h.z (sc (i + 1)) (sc (i + 2)))) okC_m rfl rfl q_L_56 ⟨by omega, by omega⟩ (Nat.le_of_ble_eq_true rfl) dL_law_598 (fun v X hp => ?_)
  obtain ⟨F3, M2⟩ := X
  obtain ⟨hm, em⟩ := hp
  have em : F2 = F3 := em.symm
  subst em
  obtain ⟨hv, -⟩ := id hm
  subst hv
  obtain ⟨eq, hR⟩ := st_child h hN hx hm
  refine z_icmp_eq C 1674 dL_law_601 (by decide) (fun hh => ?_) (fun hh => ?_)
  · exact next _ _ (hR.up (by omega))
  · exact absurd (Value.int.inj (Option.some.inj eq)) hh
set_option maxRecDepth 100000 in
set_option maxHeartbeats 4000000 in
theorem lw_9 {l : Launch} {E : zE} {K : zK} {R : Room} {s : State} {mL : Nat} {q0 n : Nat} {sc : Nat → Int32} {N : Nat} {F : zF} {M : zM} (C : zC (cell := cellC E) l E (adrC E) okC (xeu E) (evC q0 n sc E) (AC E) K cL_law RL R s mL) (hRm : 20 ≤ R.frames ∧ 2000 ≤ R.locals) (hn : n ≤ 3072) (h : RR N F M) (hN : N ≤ 98000000) {i : Nat} (hi : i + 6 ≤ n) (next : ∀ F2 M2, RR (N + 1500) F2 M2 → Z K (zPP E (adrC E) (cellC E) okC (evC q0 n sc E) (F2, M2) s) 1674 [(0, .ref q0), (1, .ref (adrC E (0, 0, 0))), (2, .ref (adrC E (100, 0, 0))), (3, .int (nI i))] []) : Z K (zPP E (adrC E) (cellC E) okC (evC q0 n sc E) (F, M) s) 606 [(0, .ref q0), (1, .ref (adrC E (0, 0, 0))), (2, .ref (adrC E (100, 0, 0))), (3, .int (nI i))] [] := by
  obtain ⟨hf, hl⟩ := hRm
  refine z_aload_n C 1 dL_law_606 rfl ?_
  refine z_aload_n C 0 dL_law_607 rfl ?_
  refine z_iload_n C 3 dL_law_608 rfl ?_
  refine z_iconst C (v := 1) dL_law_609 rfl ?_
  refine z_iadd C dL_law_610 ?_
  refine z_top (nI (i + 1)) (nI_add i 1) ?_
  refine z_tald C (i + 1) (fun H h => h.1.2) rfl (by omega) (by omega) rfl dL_law_611 ?_
  refine z_aload_n C 0 dL_law_612 rfl ?_
  refine z_iload_n C 3 dL_law_613 rfl ?_
  refine z_iconst C (v := 2) dL_law_614 rfl ?_
  refine z_iadd C dL_law_615 ?_
  refine z_top (nI (i + 2)) (nI_add i 2) ?_
  refine z_tald C (i + 2) (fun H h => h.1.2) rfl (by omega) (by omega) rfl dL_law_616 ?_
  refine z_callV2 C (CXv (c_X6_shopOf l E F h.1 (sc (i + 1)) (sc (i + 2)))) okC_x rfl rfl q_L_57 ⟨by omega, by omega⟩ (Nat.le_of_ble_eq_true rfl) dL_law_617 (fun v X hp => ?_)
  obtain ⟨F2, M1⟩ := X
  obtain ⟨hx, em⟩ := hp
  have em : M = M1 := em.symm
  subst em
  obtain ⟨hv, -⟩ := id hx
  subst hv
  refine z_aload_n C 2 dL_law_620 rfl ?_
  refine z_aload_n C 0 dL_law_621 rfl ?_
  refine z_iload_n C 3 dL_law_622 rfl ?_
  refine z_iconst C (v := 1) dL_law_623 rfl ?_
  refine z_iadd C dL_law_624 ?_
  refine z_top (nI (i + 1)) (nI_add i 1) ?_
  refine z_tald C (i + 1) (fun H h => h.1.2) rfl (by omega) (by omega) rfl dL_law_625 ?_
  refine z_aload_n C 0 dL_law_626 rfl ?_
  refine z_iload_n C 3 dL_law_627 rfl ?_
  refine z_iconst C (v := 2) dL_law_628 rfl ?_
  refine z_iadd C dL_law_629 ?_
  refine z_top (nI (i + 2)) (nI_add i 2) ?_
  refine z_tald C (i + 2) (fun H h => h.1.2) rfl (by omega) (by omega) rfl dL_law_630 ?_
  refine z_callV2 C (CYv (c_X7_shopOf l (E2 E) M h.z (h.2.2.1.sm (by omega)) (sc (i + 1)) (sc (i + 2)))) okC_m rfl rfl q_L_60 ⟨by omega, by omega⟩ (Nat.le_of_ble_eq_true rfl) dL_law_631 (fun v X hp => ?_)
  obtain ⟨F3, M2⟩ := X
  obtain ⟨hm, em⟩ := hp
  have em : F2 = F3 := em.symm
  subst em
  obtain ⟨hv, -⟩ := id hm
  subst hv
  obtain ⟨eq, hR⟩ := st_shopOf h hN hx hm
  refine z_icmp_eq C 1674 dL_law_634 (by decide) (fun hh => ?_) (fun hh => ?_)
  · exact next _ _ (hR.up (by omega))
  · exact absurd (Value.int.inj (Option.some.inj eq)) hh
set_option maxRecDepth 100000 in
set_option maxHeartbeats 4000000 in
theorem lw_10 {l : Launch} {E : zE} {K : zK} {R : Room} {s : State} {mL : Nat} {q0 n : Nat} {sc : Nat → Int32} {N : Nat} {F : zF} {M : zM} (C : zC (cell := cellC E) l E (adrC E) okC (xeu E) (evC q0 n sc E) (AC E) K cL_law RL R s mL) (hRm : 20 ≤ R.frames ∧ 2000 ≤ R.locals) (hn : n ≤ 3072) (h : RR N F M) (hN : N ≤ 98000000) {i : Nat} (hi : i + 6 ≤ n) (next : ∀ F2 M2, RR (N + 1500) F2 M2 → Z K (zPP E (adrC E) (cellC E) okC (evC q0 n sc E) (F2, M2) s) 1674 [(0, .ref q0), (1, .ref (adrC E (0, 0, 0))), (2, .ref (adrC E (100, 0, 0))), (3, .int (nI i))] []) : Z K (zPP E (adrC E) (cellC E) okC (evC q0 n sc E) (F, M) s) 639 [(0, .ref q0), (1, .ref (adrC E (0, 0, 0))), (2, .ref (adrC E (100, 0, 0))), (3, .int (nI i))] [] := by
  obtain ⟨hf, hl⟩ := hRm
  refine z_aload_n C 1 dL_law_639 rfl ?_
  refine z_aload_n C 0 dL_law_640 rfl ?_
  refine z_iload_n C 3 dL_law_641 rfl ?_
  refine z_iconst C (v := 1) dL_law_642 rfl ?_
  refine z_iadd C dL_law_643 ?_
  refine z_top (nI (i + 1)) (nI_add i 1) ?_
  refine z_tald C (i + 1) (fun H h => h.1.2) rfl (by omega) (by omega) rfl dL_law_644 ?_
  refine z_aload_n C 0 dL_law_645 rfl ?_
  refine z_iload_n C 3 dL_law_646 rfl ?_
  refine z_iconst C (v := 2) dL_law_647 rfl ?_
  refine z_iadd C dL_law_648 ?_
  refine z_top (nI (i + 2)) (nI_add i 2) ?_
  refine z_tald C (i + 2) (fun H h => h.1.2) rfl (by omega) (by omega) rfl dL_law_649 ?_
  refine z_callV2 C (CXv (c_X6_childOf l E F h.1 (sc (i + 1)) (sc (i + 2)))) okC_x rfl rfl q_L_61 ⟨by omega, by omega⟩ (Nat.le_of_ble_eq_true rfl) dL_law_650 (fun v X hp => ?_)
  obtain ⟨F2, M1⟩ := X
  obtain ⟨hx, em⟩ := hp
  have em : M = M1 := em.symm
  subst em
  obtain ⟨hv, -⟩ := id hx
  subst hv
  refine z_aload_n C 2 dL_law_653 rfl ?_
  refine z_aload_n C 0 dL_law_654 rfl ?_
  refine z_iload_n C 3 dL_law_655 rfl ?_
  refine z_iconst C (v := 1) dL_law_656 rfl ?_
  refine z_iadd C dL_law_657 ?_
  refine z_top (nI (i + 1)) (nI_add i 1) ?_
  refine z_tald C (i + 1) (fun H h => h.1.2) rfl (by omega) (by omega) rfl dL_law_658 ?_
  refine z_aload_n C 0 dL_law_659 rfl ?_
  refine z_iload_n C 3 dL_law_660 rfl ?_
  refine z_iconst C (v := 2) dL_law_661 rfl ?_
  refine z_iadd C dL_law_662 ?_
  refine z_top (nI (i + 2)) (nI_add i 2) ?_
  refine z_tald C (i + 2) (fun H h => h.1.2) rfl (by omega) (by omega) rfl dL_law_663 ?_
  refine z_callV2 C (CYv (c_X7_childOf l (E2 E) M h.z (sc (i + 1)) (sc (i + 2)))) okC_m rfl rfl q_L_64 ⟨by omega, by omega⟩ (Nat.le_of_ble_eq_true rfl) dL_law_664 (fun v X hp => ?_)
  obtain ⟨F3, M2⟩ := X
  obtain ⟨hm, em⟩ := hp
  have em : F2 = F3 := em.symm
  subst em
  obtain ⟨hv, -⟩ := id hm
  subst hv
  obtain ⟨eq, hR⟩ := st_childOf h hN hx hm
  refine z_icmp_eq C 1674 dL_law_667 (by decide) (fun hh => ?_) (fun hh => ?_)
  · exact next _ _ (hR.up (by omega))
  · exact absurd (Value.int.inj (Option.some.inj eq)) hh
set_option maxRecDepth 100000 in
set_option maxHeartbeats 4000000 in
theorem lw_11 {l : Launch} {E : zE} {K : zK} {R : Room} {s : State} {mL : Nat} {q0 n : Nat} {sc : Nat → Int32} {N : Nat} {F : zF} {M : zM} (C : zC (cell := cellC E) l E (adrC E) okC (xeu E) (evC q0 n sc E) (AC E) K cL_law RL R s mL) (hRm : 20 ≤ R.frames ∧ 2000 ≤ R.locals) (hn : n ≤ 3072) (h : RR N F M) (hN : N ≤ 98000000) {i : Nat} (hi : i + 6 ≤ n) (next : ∀ F2 M2, RR (N + 1500) F2 M2 → Z K (zPP E (adrC E) (cellC E) okC (evC q0 n sc E) (F2, M2) s) 1674 [(0, .ref q0), (1, .ref (adrC E (0, 0, 0))), (2, .ref (adrC E (100, 0, 0))), (3, .int (nI i))] []) : Z K (zPP E (adrC E) (cellC E) okC (evC q0 n sc E) (F, M) s) 672 [(0, .ref q0), (1, .ref (adrC E (0, 0, 0))), (2, .ref (adrC E (100, 0, 0))), (3, .int (nI i))] [] := by
  obtain ⟨hf, hl⟩ := hRm
  refine z_aload_n C 1 dL_law_672 rfl ?_
  refine z_aload_n C 0 dL_law_673 rfl ?_
  refine z_iload_n C 3 dL_law_674 rfl ?_
  refine z_iconst C (v := 1) dL_law_675 rfl ?_
  refine z_iadd C dL_law_676 ?_
  refine z_top (nI (i + 1)) (nI_add i 1) ?_
  refine z_tald C (i + 1) (fun H h => h.1.2) rfl (by omega) (by omega) rfl dL_law_677 ?_
  refine z_aload_n C 0 dL_law_678 rfl ?_
  refine z_iload_n C 3 dL_law_679 rfl ?_
  refine z_iconst C (v := 2) dL_law_680 rfl ?_
  refine z_iadd C dL_law_681 ?_
  refine z_top (nI (i + 2)) (nI_add i 2) ?_
  refine z_tald C (i + 2) (fun H h => h.1.2) rfl (by omega) (by omega) rfl dL_law_682 ?_
  refine z_aload_n C 0 dL_law_683 rfl ?_
  refine z_iload_n C 3 dL_law_684 rfl ?_
  refine z_iconst C (v := 3) dL_law_685 rfl ?_
  refine z_iadd C dL_law_686 ?_
  refine z_top (nI (i + 3)) (nI_add i 3) ?_
  refine z_tald C (i + 3) (fun H h => h.1.2) rfl (by omega) (by omega) rfl dL_law_687 ?_
  refine z_callV3 C (CXv (c_X6_tell l E F h.1 (sc (i + 1)) (sc (i + 2)) (sc (i + 3)))) okC_x rfl rfl q_L_65 ⟨by omega, by omega⟩ (Nat.le_of_ble_eq_true rfl) dL_law_688 (fun v X hp => ?_)
  obtain ⟨F2, M1⟩ := X
  obtain ⟨hx, em⟩ := hp
  have em : M = M1 := em.symm
  subst em
  obtain ⟨hv, -⟩ := id hx
  subst hv
  refine z_aload_n C 2 dL_law_691 rfl ?_
  refine z_aload_n C 0 dL_law_692 rfl ?_
  refine z_iload_n C 3 dL_law_693 rfl ?_
  refine z_iconst C (v := 1) dL_law_694 rfl ?_
  refine z_iadd C dL_law_695 ?_
  refine z_top (nI (i + 1)) (nI_add i 1) ?_
  refine z_tald C (i + 1) (fun H h => h.1.2) rfl (by omega) (by omega) rfl dL_law_696 ?_
  refine z_aload_n C 0 dL_law_697 rfl ?_
  refine z_iload_n C 3 dL_law_698 rfl ?_
  refine z_iconst C (v := 2) dL_law_699 rfl ?_
  refine z_iadd C dL_law_700 ?_
  refine z_top (nI (i + 2)) (nI_add i 2) ?_
  refine z_tald C (i + 2) (fun H h => h.1.2) rfl (by omega) (by omega) rfl dL_law_701 ?_
  refine z_aload_n C 0 dL_law_702 rfl ?_
  refine z_iload_n C 3 dL_law_703 rfl ?_
  refine z_iconst C (v := 3) dL_law_704 rfl ?_
  refine z_iadd C dL_law_705 ?_
  refine z_top (nI (i + 3)) (nI_add i 3) ?_
  refine z_tald C (i + 3) (fun H h => h.1.2) rfl (by omega) (by omega) rfl dL_law_706 ?_
  refine z_callV3 C (CYv (c_X7_tell l (E2 E) M h.z (sc (i + 1)) (sc (i + 2)) (sc (i + 3)))) okC_m rfl rfl q_L_68 ⟨by omega, by omega⟩ (Nat.le_of_ble_eq_true rfl) dL_law_707 (fun v X hp => ?_)
  obtain ⟨F3, M2⟩ := X
  obtain ⟨hm, em⟩ := hp
  have em : F2 = F3 := em.symm
  subst em
  obtain ⟨hv, -⟩ := id hm
  subst hv
  obtain ⟨eq, hR⟩ := st_tell h hN hx hm
  refine z_icmp_eq C 1674 dL_law_710 (by decide) (fun hh => ?_) (fun hh => ?_)
  · exact next _ _ (hR.up (by omega))
  · exact absurd (Value.int.inj (Option.some.inj eq)) hh
set_option maxRecDepth 100000 in
set_option maxHeartbeats 4000000 in
theorem lw_12 {l : Launch} {E : zE} {K : zK} {R : Room} {s : State} {mL : Nat} {q0 n : Nat} {sc : Nat → Int32} {N : Nat} {F : zF} {M : zM} (C : zC (cell := cellC E) l E (adrC E) okC (xeu E) (evC q0 n sc E) (AC E) K cL_law RL R s mL) (hRm : 20 ≤ R.frames ∧ 2000 ≤ R.locals) (hn : n ≤ 3072) (h : RR N F M) (hN : N ≤ 98000000) {i : Nat} (hi : i + 6 ≤ n) (next : ∀ F2 M2, RR (N + 1500) F2 M2 → Z K (zPP E (adrC E) (cellC E) okC (evC q0 n sc E) (F2, M2) s) 1674 [(0, .ref q0), (1, .ref (adrC E (0, 0, 0))), (2, .ref (adrC E (100, 0, 0))), (3, .int (nI i))] []) : Z K (zPP E (adrC E) (cellC E) okC (evC q0 n sc E) (F, M) s) 715 [(0, .ref q0), (1, .ref (adrC E (0, 0, 0))), (2, .ref (adrC E (100, 0, 0))), (3, .int (nI i))] [] := by
  obtain ⟨hf, hl⟩ := hRm
  refine z_aload_n C 1 dL_law_715 rfl ?_
  refine z_aload_n C 0 dL_law_716 rfl ?_
  refine z_iload_n C 3 dL_law_717 rfl ?_
  refine z_iconst C (v := 1) dL_law_718 rfl ?_
  refine z_iadd C dL_law_719 ?_
  refine z_top (nI (i + 1)) (nI_add i 1) ?_
  refine z_tald C (i + 1) (fun H h => h.1.2) rfl (by omega) (by omega) rfl dL_law_720 ?_
  refine z_aload_n C 0 dL_law_721 rfl ?_
  refine z_iload_n C 3 dL_law_722 rfl ?_
  refine z_iconst C (v := 2) dL_law_723 rfl ?_
  refine z_iadd C dL_law_724 ?_
  refine z_top (nI (i + 2)) (nI_add i 2) ?_
  refine z_tald C (i + 2) (fun H h => h.1.2) rfl (by omega) (by omega) rfl dL_law_725 ?_
  refine z_callV2 C (CXv (c_X6_keeps l E F h.1 (sc (i + 1)) (sc (i + 2)))) okC_x rfl rfl q_L_69 ⟨by omega, by omega⟩ (Nat.le_of_ble_eq_true rfl) dL_law_726 (fun v X hp => ?_)
  obtain ⟨F2, M1⟩ := X
  obtain ⟨hx, em⟩ := hp
  have em : M = M1 := em.symm
  subst em
  obtain ⟨hv, -⟩ := id hx
  subst hv
  refine z_aload_n C 2 dL_law_729 rfl ?_
  refine z_aload_n C 0 dL_law_730 rfl ?_
  refine z_iload_n C 3 dL_law_731 rfl ?_
  refine z_iconst C (v := 1) dL_law_732 rfl ?_
  refine z_iadd C dL_law_733 ?_
  refine z_top (nI (i + 1)) (nI_add i 1) ?_
  refine z_tald C (i + 1) (fun H h => h.1.2) rfl (by omega) (by omega) rfl dL_law_734 ?_
  refine z_aload_n C 0 dL_law_735 rfl ?_
  refine z_iload_n C 3 dL_law_736 rfl ?_
  refine z_iconst C (v := 2) dL_law_737 rfl ?_
  refine z_iadd C dL_law_738 ?_
  refine z_top (nI (i + 2)) (nI_add i 2) ?_
  refine z_tald C (i + 2) (fun H h => h.1.2) rfl (by omega) (by omega) rfl dL_law_739 ?_
  refine z_callV2 C (CYv (c_X7_keeps l (E2 E) M h.z (sc (i + 1)) (sc (i + 2)))) okC_m rfl rfl q_L_72 ⟨by omega, by omega⟩ (Nat.le_of_ble_eq_true rfl) dL_law_740 (fun v X hp => ?_)
  obtain ⟨F3, M2⟩ := X
  obtain ⟨hm, em⟩ := hp
  have em : F2 = F3 := em.symm
  subst em
  obtain ⟨hv, -⟩ := id hm
  subst hv
  obtain ⟨eq, hR⟩ := st_keeps h hN hx hm
  refine z_icmp_eq C 1674 dL_law_743 (by decide) (fun hh => ?_) (fun hh => ?_)
  · exact next _ _ (hR.up (by omega))
  · exact absurd (Value.int.inj (Option.some.inj eq)) hh
set_option maxRecDepth 100000 in
set_option maxHeartbeats 4000000 in
theorem lw_13 {l : Launch} {E : zE} {K : zK} {R : Room} {s : State} {mL : Nat} {q0 n : Nat} {sc : Nat → Int32} {N : Nat} {F : zF} {M : zM} (C : zC (cell := cellC E) l E (adrC E) okC (xeu E) (evC q0 n sc E) (AC E) K cL_law RL R s mL) (hRm : 20 ≤ R.frames ∧ 2000 ≤ R.locals) (hn : n ≤ 3072) (h : RR N F M) (hN : N ≤ 98000000) {i : Nat} (hi : i + 6 ≤ n) (next : ∀ F2 M2, RR (N + 1500) F2 M2 → Z K (zPP E (adrC E) (cellC E) okC (evC q0 n sc E) (F2, M2) s) 1674 [(0, .ref q0), (1, .ref (adrC E (0, 0, 0))), (2, .ref (adrC E (100, 0, 0))), (3, .int (nI i))] []) : Z K (zPP E (adrC E) (cellC E) okC (evC q0 n sc E) (F, M) s) 748 [(0, .ref q0), (1, .ref (adrC E (0, 0, 0))), (2, .ref (adrC E (100, 0, 0))), (3, .int (nI i))] [] := by
  obtain ⟨hf, hl⟩ := hRm
  refine z_aload_n C 1 dL_law_748 rfl ?_
  refine z_aload_n C 0 dL_law_749 rfl ?_
  refine z_iload_n C 3 dL_law_750 rfl ?_
  refine z_iconst C (v := 1) dL_law_751 rfl ?_
  refine z_iadd C dL_law_752 ?_
  refine z_top (nI (i + 1)) (nI_add i 1) ?_
  refine z_tald C (i + 1) (fun H h => h.1.2) rfl (by omega) (by omega) rfl dL_law_753 ?_
  refine z_aload_n C 0 dL_law_754 rfl ?_
  refine z_iload_n C 3 dL_law_755 rfl ?_
  refine z_iconst C (v := 2) dL_law_756 rfl ?_
  refine z_iadd C dL_law_757 ?_
  refine z_top (nI (i + 2)) (nI_add i 2) ?_
  refine z_tald C (i + 2) (fun H h => h.1.2) rfl (by omega) (by omega) rfl dL_law_758 ?_
  refine z_callV2 C (CXv (c_X6_ask l E F h.1 (sc (i + 1)) (sc (i + 2)))) okC_x rfl rfl q_L_73 ⟨by omega, by omega⟩ (Nat.le_of_ble_eq_true rfl) dL_law_759 (fun v X hp => ?_)
  obtain ⟨F2, M1⟩ := X
  obtain ⟨hx, em⟩ := hp
  have em : M = M1 := em.symm
  subst em
  obtain ⟨hv, -⟩ := id hx
  subst hv
  refine z_aload_n C 2 dL_law_762 rfl ?_
  refine z_aload_n C 0 dL_law_763 rfl ?_
  refine z_iload_n C 3 dL_law_764 rfl ?_
  refine z_iconst C (v := 1) dL_law_765 rfl ?_
  refine z_iadd C dL_law_766 ?_
  refine z_top (nI (i + 1)) (nI_add i 1) ?_
  refine z_tald C (i + 1) (fun H h => h.1.2) rfl (by omega) (by omega) rfl dL_law_767 ?_
  refine z_aload_n C 0 dL_law_768 rfl ?_
  refine z_iload_n C 3 dL_law_769 rfl ?_
  refine z_iconst C (v := 2) dL_law_770 rfl ?_
  refine z_iadd C dL_law_771 ?_
  refine z_top (nI (i + 2)) (nI_add i 2) ?_
  refine z_tald C (i + 2) (fun H h => h.1.2) rfl (by omega) (by omega) rfl dL_law_772 ?_
  refine z_callV2 C (CYv (c_X7_ask l (E2 E) M (sc (i + 1)) (sc (i + 2)))) okC_m rfl rfl q_L_76 ⟨by omega, by omega⟩ (Nat.le_of_ble_eq_true rfl) dL_law_773 (fun v X hp => ?_)
  obtain ⟨F3, M2⟩ := X
  obtain ⟨hm, em⟩ := hp
  have em : F2 = F3 := em.symm
  subst em
  obtain ⟨hv, -⟩ := id hm
  subst hv
  obtain ⟨eq, hR⟩ := st_ask h hN hx hm
  refine z_icmp_eq C 1674 dL_law_776 (by decide) (fun hh => ?_) (fun hh => ?_)
  · exact next _ _ (hR.up (by omega))
  · exact absurd (Value.int.inj (Option.some.inj eq)) hh
set_option maxRecDepth 100000 in
set_option maxHeartbeats 4000000 in
theorem lw_14 {l : Launch} {E : zE} {K : zK} {R : Room} {s : State} {mL : Nat} {q0 n : Nat} {sc : Nat → Int32} {N : Nat} {F : zF} {M : zM} (C : zC (cell := cellC E) l E (adrC E) okC (xeu E) (evC q0 n sc E) (AC E) K cL_law RL R s mL) (hRm : 20 ≤ R.frames ∧ 2000 ≤ R.locals) (hn : n ≤ 3072) (h : RR N F M) (hN : N ≤ 98000000) {i : Nat} (hi : i + 6 ≤ n) (next : ∀ F2 M2, RR (N + 1500) F2 M2 → Z K (zPP E (adrC E) (cellC E) okC (evC q0 n sc E) (F2, M2) s) 1674 [(0, .ref q0), (1, .ref (adrC E (0, 0, 0))), (2, .ref (adrC E (100, 0, 0))), (3, .int (nI i))] []) : Z K (zPP E (adrC E) (cellC E) okC (evC q0 n sc E) (F, M) s) 781 [(0, .ref q0), (1, .ref (adrC E (0, 0, 0))), (2, .ref (adrC E (100, 0, 0))), (3, .int (nI i))] [] := by
  obtain ⟨hf, hl⟩ := hRm
  refine z_aload_n C 1 dL_law_781 rfl ?_
  refine z_aload_n C 0 dL_law_782 rfl ?_
  refine z_iload_n C 3 dL_law_783 rfl ?_
  refine z_iconst C (v := 1) dL_law_784 rfl ?_
  refine z_iadd C dL_law_785 ?_
  refine z_top (nI (i + 1)) (nI_add i 1) ?_
  refine z_tald C (i + 1) (fun H h => h.1.2) rfl (by omega) (by omega) rfl dL_law_786 ?_
  refine z_callV1 C (CXv (c_X6_garden l E F h.1 (sc (i + 1)))) okC_x rfl rfl q_L_77 ⟨by omega, by omega⟩ (Nat.le_of_ble_eq_true rfl) dL_law_787 (fun v X hp => ?_)
  obtain ⟨F2, M1⟩ := X
  obtain ⟨hx, em⟩ := hp
  have em : M = M1 := em.symm
  subst em
  obtain ⟨hv, -⟩ := id hx
  subst hv
  refine z_aload_n C 2 dL_law_790 rfl ?_
  refine z_aload_n C 0 dL_law_791 rfl ?_
  refine z_iload_n C 3 dL_law_792 rfl ?_
  refine z_iconst C (v := 1) dL_law_793 rfl ?_
  refine z_iadd C dL_law_794 ?_
  refine z_top (nI (i + 1)) (nI_add i 1) ?_
  refine z_tald C (i + 1) (fun H h => h.1.2) rfl (by omega) (by omega) rfl dL_law_795 ?_
  refine z_callV1 C (CYv (c_X7_garden l (E2 E) M h.z h.2.2.1 (by omega) h.2.2.2.2.2.2.2.2.2.2.2.1 h.2.2.2.2.2.2.2.2.2.2.2.2 h.hsz h.h012 (sc (i + 1)))) okC_m rfl rfl q_L_80 ⟨by omega, by omega⟩ (Nat.le_of_ble_eq_true rfl) dL_law_796 (fun v X hp => ?_)
  obtain ⟨F3, M2⟩ := X
  obtain ⟨hm, em⟩ := hp
  have em : F2 = F3 := em.symm
  subst em
  obtain ⟨eq, hR⟩ := st_garden h hN hx hm
  subst eq
  refine z_icmp_eq C 1674 dL_law_799 (by decide) (fun hh => ?_) (fun hh => ?_)
  · exact next _ _ (hR.up (by omega))
  · exact absurd rfl hh
set_option maxRecDepth 100000 in
set_option maxHeartbeats 4000000 in
theorem lw_15 {l : Launch} {E : zE} {K : zK} {R : Room} {s : State} {mL : Nat} {q0 n : Nat} {sc : Nat → Int32} {N : Nat} {F : zF} {M : zM} (C : zC (cell := cellC E) l E (adrC E) okC (xeu E) (evC q0 n sc E) (AC E) K cL_law RL R s mL) (hRm : 20 ≤ R.frames ∧ 2000 ≤ R.locals) (hn : n ≤ 3072) (h : RR N F M) (hN : N ≤ 98000000) {i : Nat} (hi : i + 6 ≤ n) (next : ∀ F2 M2, RR (N + 1500) F2 M2 → Z K (zPP E (adrC E) (cellC E) okC (evC q0 n sc E) (F2, M2) s) 1674 [(0, .ref q0), (1, .ref (adrC E (0, 0, 0))), (2, .ref (adrC E (100, 0, 0))), (3, .int (nI i))] []) : Z K (zPP E (adrC E) (cellC E) okC (evC q0 n sc E) (F, M) s) 804 [(0, .ref q0), (1, .ref (adrC E (0, 0, 0))), (2, .ref (adrC E (100, 0, 0))), (3, .int (nI i))] [] := by
  obtain ⟨hf, hl⟩ := hRm
  refine z_aload_n C 1 dL_law_804 rfl ?_
  refine z_callV0 C (CXv (c_X6_fault l E F)) okC_x rfl rfl q_L_81 ⟨by omega, by omega⟩ (Nat.le_of_ble_eq_true rfl) dL_law_805 (fun v X hp => ?_)
  obtain ⟨F2, M1⟩ := X
  obtain ⟨hx, em⟩ := hp
  have em : M = M1 := em.symm
  subst em
  obtain ⟨hv, -⟩ := id hx
  subst hv
  refine z_aload_n C 2 dL_law_808 rfl ?_
  refine z_callV0 C (CYv (c_X7_fault l (E2 E) M)) okC_m rfl rfl q_L_85 ⟨by omega, by omega⟩ (Nat.le_of_ble_eq_true rfl) dL_law_809 (fun v X hp => ?_)
  obtain ⟨F3, M2⟩ := X
  obtain ⟨hm, em⟩ := hp
  have em : F2 = F3 := em.symm
  subst em
  obtain ⟨hv, -⟩ := id hm
  subst hv
  obtain ⟨eq, hR⟩ := st_fault h hN hx hm
  refine z_icmp_eq C 1674 dL_law_812 (by decide) (fun hh => ?_) (fun hh => ?_)
  · exact next _ _ (hR.up (by omega))
  · exact absurd (Value.int.inj (Option.some.inj eq)) hh
set_option maxRecDepth 100000 in
set_option maxHeartbeats 4000000 in
theorem lw_16 {l : Launch} {E : zE} {K : zK} {R : Room} {s : State} {mL : Nat} {q0 n : Nat} {sc : Nat → Int32} {N : Nat} {F : zF} {M : zM} (C : zC (cell := cellC E) l E (adrC E) okC (xeu E) (evC q0 n sc E) (AC E) K cL_law RL R s mL) (hRm : 20 ≤ R.frames ∧ 2000 ≤ R.locals) (hn : n ≤ 3072) (h : RR N F M) (hN : N ≤ 98000000) {i : Nat} (hi : i + 6 ≤ n) (next : ∀ F2 M2, RR (N + 1500) F2 M2 → Z K (zPP E (adrC E) (cellC E) okC (evC q0 n sc E) (F2, M2) s) 1674 [(0, .ref q0), (1, .ref (adrC E (0, 0, 0))), (2, .ref (adrC E (100, 0, 0))), (3, .int (nI i))] []) : Z K (zPP E (adrC E) (cellC E) okC (evC q0 n sc E) (F, M) s) 817 [(0, .ref q0), (1, .ref (adrC E (0, 0, 0))), (2, .ref (adrC E (100, 0, 0))), (3, .int (nI i))] [] := by
  obtain ⟨hf, hl⟩ := hRm
  refine z_aload_n C 1 dL_law_817 rfl ?_
  refine z_aload_n C 0 dL_law_818 rfl ?_
  refine z_iload_n C 3 dL_law_819 rfl ?_
  refine z_iconst C (v := 1) dL_law_820 rfl ?_
  refine z_iadd C dL_law_821 ?_
  refine z_top (nI (i + 1)) (nI_add i 1) ?_
  refine z_tald C (i + 1) (fun H h => h.1.2) rfl (by omega) (by omega) rfl dL_law_822 ?_
  refine z_callV1 C (CXv (c_X6_may l E F h.1 (sc (i + 1)))) okC_x rfl rfl q_L_86 ⟨by omega, by omega⟩ (Nat.le_of_ble_eq_true rfl) dL_law_823 (fun v X hp => ?_)
  obtain ⟨F2, M1⟩ := X
  obtain ⟨hx, em⟩ := hp
  have em : M = M1 := em.symm
  subst em
  obtain ⟨hv, -⟩ := id hx
  subst hv
  refine z_aload_n C 2 dL_law_826 rfl ?_
  refine z_aload_n C 0 dL_law_827 rfl ?_
  refine z_iload_n C 3 dL_law_828 rfl ?_
  refine z_iconst C (v := 1) dL_law_829 rfl ?_
  refine z_iadd C dL_law_830 ?_
  refine z_top (nI (i + 1)) (nI_add i 1) ?_
  refine z_tald C (i + 1) (fun H h => h.1.2) rfl (by omega) (by omega) rfl dL_law_831 ?_
  refine z_callV1 C (CYv (c_X7_may l (E2 E) M h.z h.2.2.1 (by omega) (sc (i + 1)))) okC_m rfl rfl q_L_89 ⟨by omega, by omega⟩ (Nat.le_of_ble_eq_true rfl) dL_law_832 (fun v X hp => ?_)
  obtain ⟨F3, M2⟩ := X
  obtain ⟨hm, em⟩ := hp
  have em : F2 = F3 := em.symm
  subst em
  obtain ⟨hv, -⟩ := id hm
  subst hv
  obtain ⟨eq, hR⟩ := st_may h hN hx hm
  refine z_icmp_eq C 1674 dL_law_835 (by decide) (fun hh => ?_) (fun hh => ?_)
  · exact next _ _ (hR.up (by omega))
  · exact absurd (Value.int.inj (Option.some.inj eq)) hh
set_option maxRecDepth 100000 in
set_option maxHeartbeats 4000000 in
theorem lw_17 {l : Launch} {E : zE} {K : zK} {R : Room} {s : State} {mL : Nat} {q0 n : Nat} {sc : Nat → Int32} {N : Nat} {F : zF} {M : zM} (C : zC (cell := cellC E) l E (adrC E) okC (xeu E) (evC q0 n sc E) (AC E) K cL_law RL R s mL) (hRm : 20 ≤ R.frames ∧ 2000 ≤ R.locals) (hn : n ≤ 3072) (h : RR N F M) (hN : N ≤ 98000000) {i : Nat} (hi : i + 6 ≤ n) (next : ∀ F2 M2, RR (N + 1500) F2 M2 → Z K (zPP E (adrC E) (cellC E) okC (evC q0 n sc E) (F2, M2) s) 1674 [(0, .ref q0), (1, .ref (adrC E (0, 0, 0))), (2, .ref (adrC E (100, 0, 0))), (3, .int (nI i))] []) : Z K (zPP E (adrC E) (cellC E) okC (evC q0 n sc E) (F, M) s) 840 [(0, .ref q0), (1, .ref (adrC E (0, 0, 0))), (2, .ref (adrC E (100, 0, 0))), (3, .int (nI i))] [] := by
  obtain ⟨hf, hl⟩ := hRm
  refine z_aload_n C 1 dL_law_840 rfl ?_
  refine z_aload_n C 0 dL_law_841 rfl ?_
  refine z_iload_n C 3 dL_law_842 rfl ?_
  refine z_iconst C (v := 1) dL_law_843 rfl ?_
  refine z_iadd C dL_law_844 ?_
  refine z_top (nI (i + 1)) (nI_add i 1) ?_
  refine z_tald C (i + 1) (fun H h => h.1.2) rfl (by omega) (by omega) rfl dL_law_845 ?_
  refine z_aload_n C 0 dL_law_846 rfl ?_
  refine z_iload_n C 3 dL_law_847 rfl ?_
  refine z_iconst C (v := 2) dL_law_848 rfl ?_
  refine z_iadd C dL_law_849 ?_
  refine z_top (nI (i + 2)) (nI_add i 2) ?_
  refine z_tald C (i + 2) (fun H h => h.1.2) rfl (by omega) (by omega) rfl dL_law_850 ?_
  refine z_aload_n C 0 dL_law_851 rfl ?_
  refine z_iload_n C 3 dL_law_852 rfl ?_
  refine z_iconst C (v := 3) dL_law_853 rfl ?_
  refine z_iadd C dL_law_854 ?_
  refine z_top (nI (i + 3)) (nI_add i 3) ?_
  refine z_tald C (i + 3) (fun H h => h.1.2) rfl (by omega) (by omega) rfl dL_law_855 ?_
  refine z_aload_n C 0 dL_law_856 rfl ?_
  refine z_iload_n C 3 dL_law_857 rfl ?_
  refine z_iconst C (v := 4) dL_law_858 rfl ?_
  refine z_iadd C dL_law_859 ?_
  refine z_top (nI (i + 4)) (nI_add i 4) ?_
  refine z_tald C (i + 4) (fun H h => h.1.2) rfl (by omega) (by omega) rfl dL_law_860 ?_
  refine z_callV4 C (CXv (c_X6_behind l E F h.1 (sc (i + 1)) (sc (i + 2)) (sc (i + 3)) (sc (i + 4)))) okC_x rfl rfl q_L_90 ⟨by omega, by omega⟩ (Nat.le_of_ble_eq_true rfl) dL_law_861 (fun v X hp => ?_)
  obtain ⟨F2, M1⟩ := X
  obtain ⟨hx, em⟩ := hp
  have em : M = M1 := em.symm
  subst em
  obtain ⟨hv, -⟩ := id hx
  subst hv
  refine z_aload_n C 2 dL_law_864 rfl ?_
  refine z_aload_n C 0 dL_law_865 rfl ?_
  refine z_iload_n C 3 dL_law_866 rfl ?_
  refine z_iconst C (v := 1) dL_law_867 rfl ?_
  refine z_iadd C dL_law_868 ?_
  refine z_top (nI (i + 1)) (nI_add i 1) ?_
  refine z_tald C (i + 1) (fun H h => h.1.2) rfl (by omega) (by omega) rfl dL_law_869 ?_
  refine z_aload_n C 0 dL_law_870 rfl ?_
  refine z_iload_n C 3 dL_law_871 rfl ?_
  refine z_iconst C (v := 2) dL_law_872 rfl ?_
  refine z_iadd C dL_law_873 ?_
  refine z_top (nI (i + 2)) (nI_add i 2) ?_
  refine z_tald C (i + 2) (fun H h => h.1.2) rfl (by omega) (by omega) rfl dL_law_874 ?_
  refine z_aload_n C 0 dL_law_875 rfl ?_
  refine z_iload_n C 3 dL_law_876 rfl ?_
  refine z_iconst C (v := 3) dL_law_877 rfl ?_
  refine z_iadd C dL_law_878 ?_
  refine z_top (nI (i + 3)) (nI_add i 3) ?_
  refine z_tald C (i + 3) (fun H h => h.1.2) rfl (by omega) (by omega) rfl dL_law_879 ?_
  refine z_aload_n C 0 dL_law_880 rfl ?_
  refine z_iload_n C 3 dL_law_881 rfl ?_
  refine z_iconst C (v := 4) dL_law_882 rfl ?_
  refine z_iadd C dL_law_883 ?_
  refine z_top (nI (i + 4)) (nI_add i 4) ?_
  refine z_tald C (i + 4) (fun H h => h.1.2) rfl (by omega) (by omega) rfl dL_law_884 ?_
  refine z_callV4 C (CYv (c_X7_behind l (E2 E) M h.z h.2.2.1 (by omega) (sc (i + 1)) (sc (i + 2)) (sc (i + 3)) (sc (i + 4)))) okC_m rfl rfl q_L_94 ⟨by omega, by omega⟩ (Nat.le_of_ble_eq_true rfl) dL_law_885 (fun v X hp => ?_)
  obtain ⟨F3, M2⟩ := X
  obtain ⟨hm, em⟩ := hp
  have em : F2 = F3 := em.symm
  subst em
  obtain ⟨hv, -⟩ := id hm
  subst hv
  obtain ⟨eq, hR⟩ := st_behind h hN hx hm
  refine z_icmp_eq C 1674 dL_law_888 (by decide) (fun hh => ?_) (fun hh => ?_)
  · exact next _ _ (hR.up (by omega))
  · exact absurd (Value.int.inj (Option.some.inj eq)) hh
set_option maxRecDepth 100000 in
set_option maxHeartbeats 4000000 in
theorem lw_18 {l : Launch} {E : zE} {K : zK} {R : Room} {s : State} {mL : Nat} {q0 n : Nat} {sc : Nat → Int32} {N : Nat} {F : zF} {M : zM} (C : zC (cell := cellC E) l E (adrC E) okC (xeu E) (evC q0 n sc E) (AC E) K cL_law RL R s mL) (hRm : 20 ≤ R.frames ∧ 2000 ≤ R.locals) (hn : n ≤ 3072) (h : RR N F M) (hN : N ≤ 98000000) {i : Nat} (hi : i + 6 ≤ n) (next : ∀ F2 M2, RR (N + 1500) F2 M2 → Z K (zPP E (adrC E) (cellC E) okC (evC q0 n sc E) (F2, M2) s) 1674 [(0, .ref q0), (1, .ref (adrC E (0, 0, 0))), (2, .ref (adrC E (100, 0, 0))), (3, .int (nI i))] []) : Z K (zPP E (adrC E) (cellC E) okC (evC q0 n sc E) (F, M) s) 893 [(0, .ref q0), (1, .ref (adrC E (0, 0, 0))), (2, .ref (adrC E (100, 0, 0))), (3, .int (nI i))] [] := by
  obtain ⟨hf, hl⟩ := hRm
  refine z_aload_n C 1 dL_law_893 rfl ?_
  refine z_aload_n C 0 dL_law_894 rfl ?_
  refine z_iload_n C 3 dL_law_895 rfl ?_
  refine z_iconst C (v := 1) dL_law_896 rfl ?_
  refine z_iadd C dL_law_897 ?_
  refine z_top (nI (i + 1)) (nI_add i 1) ?_
  refine z_tald C (i + 1) (fun H h => h.1.2) rfl (by omega) (by omega) rfl dL_law_898 ?_
  refine z_aload_n C 0 dL_law_899 rfl ?_
  refine z_iload_n C 3 dL_law_900 rfl ?_
  refine z_iconst C (v := 2) dL_law_901 rfl ?_
  refine z_iadd C dL_law_902 ?_
  refine z_top (nI (i + 2)) (nI_add i 2) ?_
  refine z_tald C (i + 2) (fun H h => h.1.2) rfl (by omega) (by omega) rfl dL_law_903 ?_
  refine z_aload_n C 0 dL_law_904 rfl ?_
  refine z_iload_n C 3 dL_law_905 rfl ?_
  refine z_iconst C (v := 3) dL_law_906 rfl ?_
  refine z_iadd C dL_law_907 ?_
  refine z_top (nI (i + 3)) (nI_add i 3) ?_
  refine z_tald C (i + 3) (fun H h => h.1.2) rfl (by omega) (by omega) rfl dL_law_908 ?_
  refine z_callV3 C (CXv (c_X6_asks l E F h.1 (sc (i + 1)) (sc (i + 2)) (sc (i + 3)))) okC_x rfl rfl q_L_95 ⟨by omega, by omega⟩ (Nat.le_of_ble_eq_true rfl) dL_law_909 (fun v X hp => ?_)
  obtain ⟨F2, M1⟩ := X
  obtain ⟨hx, em⟩ := hp
  have em : M = M1 := em.symm
  subst em
  obtain ⟨hv, -⟩ := id hx
  subst hv
  refine z_aload_n C 2 dL_law_912 rfl ?_
  refine z_aload_n C 0 dL_law_913 rfl ?_
  refine z_iload_n C 3 dL_law_914 rfl ?_
  refine z_iconst C (v := 1) dL_law_915 rfl ?_
  refine z_iadd C dL_law_916 ?_
  refine z_top (nI (i + 1)) (nI_add i 1) ?_
  refine z_tald C (i + 1) (fun H h => h.1.2) rfl (by omega) (by omega) rfl dL_law_917 ?_
  refine z_aload_n C 0 dL_law_918 rfl ?_
  refine z_iload_n C 3 dL_law_919 rfl ?_
  refine z_iconst C (v := 2) dL_law_920 rfl ?_
  refine z_iadd C dL_law_921 ?_
  refine z_top (nI (i + 2)) (nI_add i 2) ?_
  refine z_tald C (i + 2) (fun H h => h.1.2) rfl (by omega) (by omega) rfl dL_law_922 ?_
  refine z_aload_n C 0 dL_law_923 rfl ?_
  refine z_iload_n C 3 dL_law_924 rfl ?_
  refine z_iconst C (v := 3) dL_law_925 rfl ?_
  refine z_iadd C dL_law_926 ?_
  refine z_top (nI (i + 3)) (nI_add i 3) ?_
  refine z_tald C (i + 3) (fun H h => h.1.2) rfl (by omega) (by omega) rfl dL_law_927 ?_
  refine z_callV3 C (CYv (c_X7_asks l (E2 E) M h.z h.2.2.1 (by omega) (sc (i + 1)) (sc (i + 2)) (sc (i + 3)))) okC_m rfl rfl q_L_98 ⟨by omega, by omega⟩ (Nat.le_of_ble_eq_true rfl) dL_law_928 (fun v X hp => ?_)
  obtain ⟨F3, M2⟩ := X
  obtain ⟨hm, em⟩ := hp
  have em : F2 = F3 := em.symm
  subst em
  obtain ⟨hv, -⟩ := id hm
  subst hv
  obtain ⟨eq, hR⟩ := st_asks h hN hx hm
  refine z_icmp_eq C 1674 dL_law_931 (by decide) (fun hh => ?_) (fun hh => ?_)
  · exact next _ _ (hR.up (by omega))
  · exact absurd (Value.int.inj (Option.some.inj eq)) hh
set_option maxRecDepth 100000 in
set_option maxHeartbeats 4000000 in
theorem lw_19 {l : Launch} {E : zE} {K : zK} {R : Room} {s : State} {mL : Nat} {q0 n : Nat} {sc : Nat → Int32} {N : Nat} {F : zF} {M : zM} (C : zC (cell := cellC E) l E (adrC E) okC (xeu E) (evC q0 n sc E) (AC E) K cL_law RL R s mL) (hRm : 20 ≤ R.frames ∧ 2000 ≤ R.locals) (hn : n ≤ 3072) (h : RR N F M) (hN : N ≤ 98000000) {i : Nat} (hi : i + 6 ≤ n) (next : ∀ F2 M2, RR (N + 1500) F2 M2 → Z K (zPP E (adrC E) (cellC E) okC (evC q0 n sc E) (F2, M2) s) 1674 [(0, .ref q0), (1, .ref (adrC E (0, 0, 0))), (2, .ref (adrC E (100, 0, 0))), (3, .int (nI i))] []) : Z K (zPP E (adrC E) (cellC E) okC (evC q0 n sc E) (F, M) s) 936 [(0, .ref q0), (1, .ref (adrC E (0, 0, 0))), (2, .ref (adrC E (100, 0, 0))), (3, .int (nI i))] [] := by
  obtain ⟨hf, hl⟩ := hRm
  refine z_aload_n C 1 dL_law_936 rfl ?_
  refine z_aload_n C 0 dL_law_937 rfl ?_
  refine z_iload_n C 3 dL_law_938 rfl ?_
  refine z_iconst C (v := 1) dL_law_939 rfl ?_
  refine z_iadd C dL_law_940 ?_
  refine z_top (nI (i + 1)) (nI_add i 1) ?_
  refine z_tald C (i + 1) (fun H h => h.1.2) rfl (by omega) (by omega) rfl dL_law_941 ?_
  refine z_aload_n C 0 dL_law_942 rfl ?_
  refine z_iload_n C 3 dL_law_943 rfl ?_
  refine z_iconst C (v := 2) dL_law_944 rfl ?_
  refine z_iadd C dL_law_945 ?_
  refine z_top (nI (i + 2)) (nI_add i 2) ?_
  refine z_tald C (i + 2) (fun H h => h.1.2) rfl (by omega) (by omega) rfl dL_law_946 ?_
  refine z_aload_n C 0 dL_law_947 rfl ?_
  refine z_iload_n C 3 dL_law_948 rfl ?_
  refine z_iconst C (v := 3) dL_law_949 rfl ?_
  refine z_iadd C dL_law_950 ?_
  refine z_top (nI (i + 3)) (nI_add i 3) ?_
  refine z_tald C (i + 3) (fun H h => h.1.2) rfl (by omega) (by omega) rfl dL_law_951 ?_
  refine z_callV3 C (CXv (c_X6_deals l E F h.1 (sc (i + 1)) (sc (i + 2)) (sc (i + 3)))) okC_x rfl rfl q_L_99 ⟨by omega, by omega⟩ (Nat.le_of_ble_eq_true rfl) dL_law_952 (fun v X hp => ?_)
  obtain ⟨F2, M1⟩ := X
  obtain ⟨hx, em⟩ := hp
  have em : M = M1 := em.symm
  subst em
  obtain ⟨hv, -⟩ := id hx
  subst hv
  refine z_aload_n C 2 dL_law_955 rfl ?_
  refine z_aload_n C 0 dL_law_956 rfl ?_
  refine z_iload_n C 3 dL_law_957 rfl ?_
  refine z_iconst C (v := 1) dL_law_958 rfl ?_
  refine z_iadd C dL_law_959 ?_
  refine z_top (nI (i + 1)) (nI_add i 1) ?_
  refine z_tald C (i + 1) (fun H h => h.1.2) rfl (by omega) (by omega) rfl dL_law_960 ?_
  refine z_aload_n C 0 dL_law_961 rfl ?_
  refine z_iload_n C 3 dL_law_962 rfl ?_
  refine z_iconst C (v := 2) dL_law_963 rfl ?_
  refine z_iadd C dL_law_964 ?_
  refine z_top (nI (i + 2)) (nI_add i 2) ?_
  refine z_tald C (i + 2) (fun H h => h.1.2) rfl (by omega) (by omega) rfl dL_law_965 ?_
  refine z_aload_n C 0 dL_law_966 rfl ?_
  refine z_iload_n C 3 dL_law_967 rfl ?_
  refine z_iconst C (v := 3) dL_law_968 rfl ?_
  refine z_iadd C dL_law_969 ?_
  refine z_top (nI (i + 3)) (nI_add i 3) ?_
  refine z_tald C (i + 3) (fun H h => h.1.2) rfl (by omega) (by omega) rfl dL_law_970 ?_
  refine z_callV3 C (CYv (c_X7_deals l (E2 E) M h.z h.2.2.1 (by omega) (sc (i + 1)) (sc (i + 2)) (sc (i + 3)))) okC_m rfl rfl q_L_102 ⟨by omega, by omega⟩ (Nat.le_of_ble_eq_true rfl) dL_law_971 (fun v X hp => ?_)
  obtain ⟨F3, M2⟩ := X
  obtain ⟨hm, em⟩ := hp
  have em : F2 = F3 := em.symm
  subst em
  obtain ⟨hv, -⟩ := id hm
  subst hv
  obtain ⟨eq, hR⟩ := st_deals h hN hx hm
  refine z_icmp_eq C 1674 dL_law_974 (by decide) (fun hh => ?_) (fun hh => ?_)
  · exact next _ _ (hR.up (by omega))
  · exact absurd (Value.int.inj (Option.some.inj eq)) hh
set_option maxRecDepth 100000 in
set_option maxHeartbeats 4000000 in
theorem lw_20 {l : Launch} {E : zE} {K : zK} {R : Room} {s : State} {mL : Nat} {q0 n : Nat} {sc : Nat → Int32} {N : Nat} {F : zF} {M : zM} (C : zC (cell := cellC E) l E (adrC E) okC (xeu E) (evC q0 n sc E) (AC E) K cL_law RL R s mL) (hRm : 20 ≤ R.frames ∧ 2000 ≤ R.locals) (hn : n ≤ 3072) (h : RR N F M) (hN : N ≤ 98000000) {i : Nat} (hi : i + 6 ≤ n) (next : ∀ F2 M2, RR (N + 1500) F2 M2 → Z K (zPP E (adrC E) (cellC E) okC (evC q0 n sc E) (F2, M2) s) 1674 [(0, .ref q0), (1, .ref (adrC E (0, 0, 0))), (2, .ref (adrC E (100, 0, 0))), (3, .int (nI i))] []) : Z K (zPP E (adrC E) (cellC E) okC (evC q0 n sc E) (F, M) s) 979 [(0, .ref q0), (1, .ref (adrC E (0, 0, 0))), (2, .ref (adrC E (100, 0, 0))), (3, .int (nI i))] [] := by
  obtain ⟨hf, hl⟩ := hRm
  refine z_aload_n C 1 dL_law_979 rfl ?_
  refine z_aload_n C 0 dL_law_980 rfl ?_
  refine z_iload_n C 3 dL_law_981 rfl ?_
  refine z_iconst C (v := 1) dL_law_982 rfl ?_
  refine z_iadd C dL_law_983 ?_
  refine z_top (nI (i + 1)) (nI_add i 1) ?_
  refine z_tald C (i + 1) (fun H h => h.1.2) rfl (by omega) (by omega) rfl dL_law_984 ?_
  refine z_aload_n C 0 dL_law_985 rfl ?_
  refine z_iload_n C 3 dL_law_986 rfl ?_
  refine z_iconst C (v := 2) dL_law_987 rfl ?_
  refine z_iadd C dL_law_988 ?_
  refine z_top (nI (i + 2)) (nI_add i 2) ?_
  refine z_tald C (i + 2) (fun H h => h.1.2) rfl (by omega) (by omega) rfl dL_law_989 ?_
  refine z_aload_n C 0 dL_law_990 rfl ?_
  refine z_iload_n C 3 dL_law_991 rfl ?_
  refine z_iconst C (v := 3) dL_law_992 rfl ?_
  refine z_iadd C dL_law_993 ?_
  refine z_top (nI (i + 3)) (nI_add i 3) ?_
  refine z_tald C (i + 3) (fun H h => h.1.2) rfl (by omega) (by omega) rfl dL_law_994 ?_
  refine z_callV3 C (CXv (c_X6_runs l E F h.1 (sc (i + 1)) (sc (i + 2)) (sc (i + 3)))) okC_x rfl rfl q_L_103 ⟨by omega, by omega⟩ (Nat.le_of_ble_eq_true rfl) dL_law_995 (fun v X hp => ?_)
  obtain ⟨F2, M1⟩ := X
  obtain ⟨hx, em⟩ := hp
  have em : M = M1 := em.symm
  subst em
  obtain ⟨hv, -⟩ := id hx
  subst hv
  refine z_aload_n C 2 dL_law_998 rfl ?_
  refine z_aload_n C 0 dL_law_999 rfl ?_
  refine z_iload_n C 3 dL_law_1000 rfl ?_
  refine z_iconst C (v := 1) dL_law_1001 rfl ?_
  refine z_iadd C dL_law_1002 ?_
  refine z_top (nI (i + 1)) (nI_add i 1) ?_
  refine z_tald C (i + 1) (fun H h => h.1.2) rfl (by omega) (by omega) rfl dL_law_1003 ?_
  refine z_aload_n C 0 dL_law_1004 rfl ?_
  refine z_iload_n C 3 dL_law_1005 rfl ?_
  refine z_iconst C (v := 2) dL_law_1006 rfl ?_
  refine z_iadd C dL_law_1007 ?_
  refine z_top (nI (i + 2)) (nI_add i 2) ?_
  refine z_tald C (i + 2) (fun H h => h.1.2) rfl (by omega) (by omega) rfl dL_law_1008 ?_
  refine z_aload_n C 0 dL_law_1009 rfl ?_
  refine z_iload_n C 3 dL_law_1010 rfl ?_
  refine z_iconst C (v := 3) dL_law_1011 rfl ?_
  refine z_iadd C dL_law_1012 ?_
  refine z_top (nI (i + 3)) (nI_add i 3) ?_
  refine z_tald C (i + 3) (fun H h => h.1.2) rfl (by omega) (by omega) rfl dL_law_1013 ?_
  refine z_callV3 C (CYv (c_X7_runs l (E2 E) M h.z h.2.2.1 (by omega) (sc (i + 1)) (sc (i + 2)) (sc (i + 3)))) okC_m rfl rfl q_L_106 ⟨by omega, by omega⟩ (Nat.le_of_ble_eq_true rfl) dL_law_1014 (fun v X hp => ?_)
  obtain ⟨F3, M2⟩ := X
  obtain ⟨hm, em⟩ := hp
  have em : F2 = F3 := em.symm
  subst em
  obtain ⟨hv, -⟩ := id hm
  subst hv
  obtain ⟨eq, hR⟩ := st_runs h hN hx hm
  refine z_icmp_eq C 1674 dL_law_1017 (by decide) (fun hh => ?_) (fun hh => ?_)
  · exact next _ _ (hR.up (by omega))
  · exact absurd (Value.int.inj (Option.some.inj eq)) hh
set_option maxRecDepth 100000 in
set_option maxHeartbeats 4000000 in
theorem lw_21 {l : Launch} {E : zE} {K : zK} {R : Room} {s : State} {mL : Nat} {q0 n : Nat} {sc : Nat → Int32} {N : Nat} {F : zF} {M : zM} (C : zC (cell := cellC E) l E (adrC E) okC (xeu E) (evC q0 n sc E) (AC E) K cL_law RL R s mL) (hRm : 20 ≤ R.frames ∧ 2000 ≤ R.locals) (hn : n ≤ 3072) (h : RR N F M) (hN : N ≤ 98000000) {i : Nat} (hi : i + 6 ≤ n) (next : ∀ F2 M2, RR (N + 1500) F2 M2 → Z K (zPP E (adrC E) (cellC E) okC (evC q0 n sc E) (F2, M2) s) 1674 [(0, .ref q0), (1, .ref (adrC E (0, 0, 0))), (2, .ref (adrC E (100, 0, 0))), (3, .int (nI i))] []) : Z K (zPP E (adrC E) (cellC E) okC (evC q0 n sc E) (F, M) s) 1022 [(0, .ref q0), (1, .ref (adrC E (0, 0, 0))), (2, .ref (adrC E (100, 0, 0))), (3, .int (nI i))] [] := by
  obtain ⟨hf, hl⟩ := hRm
  refine z_aload_n C 1 dL_law_1022 rfl ?_
  refine z_aload_n C 0 dL_law_1023 rfl ?_
  refine z_iload_n C 3 dL_law_1024 rfl ?_
  refine z_iconst C (v := 1) dL_law_1025 rfl ?_
  refine z_iadd C dL_law_1026 ?_
  refine z_top (nI (i + 1)) (nI_add i 1) ?_
  refine z_tald C (i + 1) (fun H h => h.1.2) rfl (by omega) (by omega) rfl dL_law_1027 ?_
  refine z_aload_n C 0 dL_law_1028 rfl ?_
  refine z_iload_n C 3 dL_law_1029 rfl ?_
  refine z_iconst C (v := 2) dL_law_1030 rfl ?_
  refine z_iadd C dL_law_1031 ?_
  refine z_top (nI (i + 2)) (nI_add i 2) ?_
  refine z_tald C (i + 2) (fun H h => h.1.2) rfl (by omega) (by omega) rfl dL_law_1032 ?_
  refine z_callV2 C (CXv (c_X6_settles l E F h.1 (sc (i + 1)) (sc (i + 2)))) okC_x rfl rfl q_L_107 ⟨by omega, by omega⟩ (Nat.le_of_ble_eq_true rfl) dL_law_1033 (fun v X hp => ?_)
  obtain ⟨F2, M1⟩ := X
  obtain ⟨hx, em⟩ := hp
  have em : M = M1 := em.symm
  subst em
  obtain ⟨hv, -⟩ := id hx
  subst hv
  refine z_aload_n C 2 dL_law_1036 rfl ?_
  refine z_aload_n C 0 dL_law_1037 rfl ?_
  refine z_iload_n C 3 dL_law_1038 rfl ?_
  refine z_iconst C (v := 1) dL_law_1039 rfl ?_
  refine z_iadd C dL_law_1040 ?_
  refine z_top (nI (i + 1)) (nI_add i 1) ?_
  refine z_tald C (i + 1) (fun H h => h.1.2) rfl (by omega) (by omega) rfl dL_law_1041 ?_
  refine z_aload_n C 0 dL_law_1042 rfl ?_
  refine z_iload_n C 3 dL_law_1043 rfl ?_
  refine z_iconst C (v := 2) dL_law_1044 rfl ?_
  refine z_iadd C dL_law_1045 ?_
  refine z_top (nI (i + 2)) (nI_add i 2) ?_
  refine z_tald C (i + 2) (fun H h => h.1.2) rfl (by omega) (by omega) rfl dL_law_1046 ?_
  refine z_callV2 C (CYv (c_X7_settles l (E2 E) M h.z h.2.2.1 (by omega) (sc (i + 1)) (sc (i + 2)))) okC_m rfl rfl q_L_110 ⟨by omega, by omega⟩ (Nat.le_of_ble_eq_true rfl) dL_law_1047 (fun v X hp => ?_)
  obtain ⟨F3, M2⟩ := X
  obtain ⟨hm, em⟩ := hp
  have em : F2 = F3 := em.symm
  subst em
  obtain ⟨hv, -⟩ := id hm
  subst hv
  obtain ⟨eq, hR⟩ := st_settles h hN hx hm
  refine z_icmp_eq C 1674 dL_law_1050 (by decide) (fun hh => ?_) (fun hh => ?_)
  · exact next _ _ (hR.up (by omega))
  · exact absurd (Value.int.inj (Option.some.inj eq)) hh
set_option maxRecDepth 100000 in
set_option maxHeartbeats 4000000 in
theorem lw_22 {l : Launch} {E : zE} {K : zK} {R : Room} {s : State} {mL : Nat} {q0 n : Nat} {sc : Nat → Int32} {N : Nat} {F : zF} {M : zM} (C : zC (cell := cellC E) l E (adrC E) okC (xeu E) (evC q0 n sc E) (AC E) K cL_law RL R s mL) (hRm : 20 ≤ R.frames ∧ 2000 ≤ R.locals) (hn : n ≤ 3072) (h : RR N F M) (hN : N ≤ 98000000) {i : Nat} (hi : i + 6 ≤ n) (next : ∀ F2 M2, RR (N + 1500) F2 M2 → Z K (zPP E (adrC E) (cellC E) okC (evC q0 n sc E) (F2, M2) s) 1674 [(0, .ref q0), (1, .ref (adrC E (0, 0, 0))), (2, .ref (adrC E (100, 0, 0))), (3, .int (nI i))] []) : Z K (zPP E (adrC E) (cellC E) okC (evC q0 n sc E) (F, M) s) 1055 [(0, .ref q0), (1, .ref (adrC E (0, 0, 0))), (2, .ref (adrC E (100, 0, 0))), (3, .int (nI i))] [] := by
  obtain ⟨hf, hl⟩ := hRm
  refine z_aload_n C 1 dL_law_1055 rfl ?_
  refine z_aload_n C 0 dL_law_1056 rfl ?_
  refine z_iload_n C 3 dL_law_1057 rfl ?_
  refine z_iconst C (v := 1) dL_law_1058 rfl ?_
  refine z_iadd C dL_law_1059 ?_
  refine z_top (nI (i + 1)) (nI_add i 1) ?_
  refine z_tald C (i + 1) (fun H h => h.1.2) rfl (by omega) (by omega) rfl dL_law_1060 ?_
  refine z_aload_n C 0 dL_law_1061 rfl ?_
  refine z_iload_n C 3 dL_law_1062 rfl ?_
  refine z_iconst C (v := 2) dL_law_1063 rfl ?_
  refine z_iadd C dL_law_1064 ?_
  refine z_top (nI (i + 2)) (nI_add i 2) ?_
  refine z_tald C (i + 2) (fun H h => h.1.2) rfl (by omega) (by omega) rfl dL_law_1065 ?_
  refine z_callV2 C (CXv (c_X6_picked l E F h.1 (sc (i + 1)) (sc (i + 2)))) okC_x rfl rfl q_L_111 ⟨by omega, by omega⟩ (Nat.le_of_ble_eq_true rfl) dL_law_1066 (fun v X hp => ?_)
  obtain ⟨F2, M1⟩ := X
  obtain ⟨hx, em⟩ := hp
  have em : M = M1 := em.symm
  subst em
  obtain ⟨hv, -⟩ := id hx
  subst hv
  refine z_aload_n C 2 dL_law_1069 rfl ?_
  refine z_aload_n C 0 dL_law_1070 rfl ?_
  refine z_iload_n C 3 dL_law_1071 rfl ?_
  refine z_iconst C (v := 1) dL_law_1072 rfl ?_
  refine z_iadd C dL_law_1073 ?_
  refine z_top (nI (i + 1)) (nI_add i 1) ?_
  refine z_tald C (i + 1) (fun H h => h.1.2) rfl (by omega) (by omega) rfl dL_law_1074 ?_
  refine z_aload_n C 0 dL_law_1075 rfl ?_
  refine z_iload_n C 3 dL_law_1076 rfl ?_
  refine z_iconst C (v := 2) dL_law_1077 rfl ?_
  refine z_iadd C dL_law_1078 ?_
  refine z_top (nI (i + 2)) (nI_add i 2) ?_
  refine z_tald C (i + 2) (fun H h => h.1.2) rfl (by omega) (by omega) rfl dL_law_1079 ?_
  refine z_callV2 C (CYv (c_X7_picked l (E2 E) M h.z h.2.2.1 (by omega) (sc (i + 1)) (sc (i + 2)))) okC_m rfl rfl q_L_114 ⟨by omega, by omega⟩ (Nat.le_of_ble_eq_true rfl) dL_law_1080 (fun v X hp => ?_)
  obtain ⟨F3, M2⟩ := X
  obtain ⟨hm, em⟩ := hp
  have em : F2 = F3 := em.symm
  subst em
  obtain ⟨hv, -⟩ := id hm
  subst hv
  obtain ⟨eq, hR⟩ := st_picked h hN hx hm
  refine z_icmp_eq C 1674 dL_law_1083 (by decide) (fun hh => ?_) (fun hh => ?_)
  · exact next _ _ (hR.up (by omega))
  · exact absurd (Value.int.inj (Option.some.inj eq)) hh
set_option maxRecDepth 100000 in
set_option maxHeartbeats 4000000 in
theorem lw_23 {l : Launch} {E : zE} {K : zK} {R : Room} {s : State} {mL : Nat} {q0 n : Nat} {sc : Nat → Int32} {N : Nat} {F : zF} {M : zM} (C : zC (cell := cellC E) l E (adrC E) okC (xeu E) (evC q0 n sc E) (AC E) K cL_law RL R s mL) (hRm : 20 ≤ R.frames ∧ 2000 ≤ R.locals) (hn : n ≤ 3072) (h : RR N F M) (hN : N ≤ 98000000) {i : Nat} (hi : i + 6 ≤ n) (next : ∀ F2 M2, RR (N + 1500) F2 M2 → Z K (zPP E (adrC E) (cellC E) okC (evC q0 n sc E) (F2, M2) s) 1674 [(0, .ref q0), (1, .ref (adrC E (0, 0, 0))), (2, .ref (adrC E (100, 0, 0))), (3, .int (nI i))] []) : Z K (zPP E (adrC E) (cellC E) okC (evC q0 n sc E) (F, M) s) 1088 [(0, .ref q0), (1, .ref (adrC E (0, 0, 0))), (2, .ref (adrC E (100, 0, 0))), (3, .int (nI i))] [] := by
  obtain ⟨hf, hl⟩ := hRm
  refine z_aload_n C 1 dL_law_1088 rfl ?_
  refine z_callV0 C (CXv (c_X6_cheapest l E F h.1)) okC_x rfl rfl q_L_115 ⟨by omega, by omega⟩ (Nat.le_of_ble_eq_true rfl) dL_law_1089 (fun v X hp => ?_)
  obtain ⟨F2, M1⟩ := X
  obtain ⟨hx, em⟩ := hp
  have em : M = M1 := em.symm
  subst em
  obtain ⟨hv, -⟩ := id hx
  subst hv
  refine z_aload_n C 2 dL_law_1092 rfl ?_
  refine z_callV0 C (CYv (c_X7_cheapest l (E2 E) M h.z h.2.2.1 (by omega))) okC_m rfl rfl q_L_118 ⟨by omega, by omega⟩ (Nat.le_of_ble_eq_true rfl) dL_law_1093 (fun v X hp => ?_)
  obtain ⟨F3, M2⟩ := X
  obtain ⟨hm, em⟩ := hp
  have em : F2 = F3 := em.symm
  subst em
  obtain ⟨hv, -⟩ := id hm
  subst hv
  obtain ⟨eq, hR⟩ := st_cheapest h hN hx hm
  refine z_icmp_eq C 1674 dL_law_1096 (by decide) (fun hh => ?_) (fun hh => ?_)
  · exact next _ _ (hR.up (by omega))
  · exact absurd (Value.int.inj (Option.some.inj eq)) hh
set_option maxRecDepth 100000 in
set_option maxHeartbeats 4000000 in
theorem lw_24 {l : Launch} {E : zE} {K : zK} {R : Room} {s : State} {mL : Nat} {q0 n : Nat} {sc : Nat → Int32} {N : Nat} {F : zF} {M : zM} (C : zC (cell := cellC E) l E (adrC E) okC (xeu E) (evC q0 n sc E) (AC E) K cL_law RL R s mL) (hRm : 20 ≤ R.frames ∧ 2000 ≤ R.locals) (hn : n ≤ 3072) (h : RR N F M) (hN : N ≤ 98000000) {i : Nat} (hi : i + 6 ≤ n) (next : ∀ F2 M2, RR (N + 1500) F2 M2 → Z K (zPP E (adrC E) (cellC E) okC (evC q0 n sc E) (F2, M2) s) 1674 [(0, .ref q0), (1, .ref (adrC E (0, 0, 0))), (2, .ref (adrC E (100, 0, 0))), (3, .int (nI i))] []) : Z K (zPP E (adrC E) (cellC E) okC (evC q0 n sc E) (F, M) s) 1101 [(0, .ref q0), (1, .ref (adrC E (0, 0, 0))), (2, .ref (adrC E (100, 0, 0))), (3, .int (nI i))] [] := by
  obtain ⟨hf, hl⟩ := hRm
  refine z_aload_n C 1 dL_law_1101 rfl ?_
  refine z_aload_n C 0 dL_law_1102 rfl ?_
  refine z_iload_n C 3 dL_law_1103 rfl ?_
  refine z_iconst C (v := 1) dL_law_1104 rfl ?_
  refine z_iadd C dL_law_1105 ?_
  refine z_top (nI (i + 1)) (nI_add i 1) ?_
  refine z_tald C (i + 1) (fun H h => h.1.2) rfl (by omega) (by omega) rfl dL_law_1106 ?_
  refine z_callV1 C (CXv (c_X6_money l E F h.1 (sc (i + 1)))) okC_x rfl rfl q_L_119 ⟨by omega, by omega⟩ (Nat.le_of_ble_eq_true rfl) dL_law_1107 (fun v X hp => ?_)
  obtain ⟨F2, M1⟩ := X
  obtain ⟨hx, em⟩ := hp
  have em : M = M1 := em.symm
  subst em
  obtain ⟨hv, -⟩ := id hx
  subst hv
  refine z_aload_n C 2 dL_law_1110 rfl ?_
  refine z_aload_n C 0 dL_law_1111 rfl ?_
  refine z_iload_n C 3 dL_law_1112 rfl ?_
  refine z_iconst C (v := 1) dL_law_1113 rfl ?_
  refine z_iadd C dL_law_1114 ?_
  refine z_top (nI (i + 1)) (nI_add i 1) ?_
  refine z_tald C (i + 1) (fun H h => h.1.2) rfl (by omega) (by omega) rfl dL_law_1115 ?_
  refine z_callV1 C (CYv (c_X7_money l (E2 E) M h.z h.2.2.1 (by omega) (sc (i + 1)))) okC_m rfl rfl q_L_122 ⟨by omega, by omega⟩ (Nat.le_of_ble_eq_true rfl) dL_law_1116 (fun v X hp => ?_)
  obtain ⟨F3, M2⟩ := X
  obtain ⟨hm, em⟩ := hp
  have em : F2 = F3 := em.symm
  subst em
  obtain ⟨hv, -⟩ := id hm
  subst hv
  obtain ⟨eq, hR⟩ := st_money h hN hx hm
  refine z_icmp_eq C 1674 dL_law_1119 (by decide) (fun hh => ?_) (fun hh => ?_)
  · exact next _ _ (hR.up (by omega))
  · exact absurd (Value.int.inj (Option.some.inj eq)) hh
set_option maxRecDepth 100000 in
set_option maxHeartbeats 4000000 in
theorem lw_25 {l : Launch} {E : zE} {K : zK} {R : Room} {s : State} {mL : Nat} {q0 n : Nat} {sc : Nat → Int32} {N : Nat} {F : zF} {M : zM} (C : zC (cell := cellC E) l E (adrC E) okC (xeu E) (evC q0 n sc E) (AC E) K cL_law RL R s mL) (hRm : 20 ≤ R.frames ∧ 2000 ≤ R.locals) (hn : n ≤ 3072) (h : RR N F M) (hN : N ≤ 98000000) {i : Nat} (hi : i + 6 ≤ n) (next : ∀ F2 M2, RR (N + 1500) F2 M2 → Z K (zPP E (adrC E) (cellC E) okC (evC q0 n sc E) (F2, M2) s) 1674 [(0, .ref q0), (1, .ref (adrC E (0, 0, 0))), (2, .ref (adrC E (100, 0, 0))), (3, .int (nI i))] []) : Z K (zPP E (adrC E) (cellC E) okC (evC q0 n sc E) (F, M) s) 1124 [(0, .ref q0), (1, .ref (adrC E (0, 0, 0))), (2, .ref (adrC E (100, 0, 0))), (3, .int (nI i))] [] := by
  obtain ⟨hf, hl⟩ := hRm
  refine z_aload_n C 1 dL_law_1124 rfl ?_
  refine z_aload_n C 0 dL_law_1125 rfl ?_
  refine z_iload_n C 3 dL_law_1126 rfl ?_
  refine z_iconst C (v := 1) dL_law_1127 rfl ?_
  refine z_iadd C dL_law_1128 ?_
  refine z_top (nI (i + 1)) (nI_add i 1) ?_
  refine z_tald C (i + 1) (fun H h => h.1.2) rfl (by omega) (by omega) rfl dL_law_1129 ?_
  refine z_callV1 C (CXv (c_X6_inked l E F h.1 (sc (i + 1)))) okC_x rfl rfl q_L_123 ⟨by omega, by omega⟩ (Nat.le_of_ble_eq_true rfl) dL_law_1130 (fun v X hp => ?_)
  obtain ⟨F2, M1⟩ := X
  obtain ⟨hx, em⟩ := hp
  have em : M = M1 := em.symm
  subst em
  obtain ⟨hv, -⟩ := id hx
  subst hv
  refine z_aload_n C 2 dL_law_1133 rfl ?_
  refine z_aload_n C 0 dL_law_1134 rfl ?_
  refine z_iload_n C 3 dL_law_1135 rfl ?_
  refine z_iconst C (v := 1) dL_law_1136 rfl ?_
  refine z_iadd C dL_law_1137 ?_
  refine z_top (nI (i + 1)) (nI_add i 1) ?_
  refine z_tald C (i + 1) (fun H h => h.1.2) rfl (by omega) (by omega) rfl dL_law_1138 ?_
  refine z_callV1 C (CYv (c_X7_inked l (E2 E) M h.z h.2.2.1 (by omega) (sc (i + 1)))) okC_m rfl rfl q_L_126 ⟨by omega, by omega⟩ (Nat.le_of_ble_eq_true rfl) dL_law_1139 (fun v X hp => ?_)
  obtain ⟨F3, M2⟩ := X
  obtain ⟨hm, em⟩ := hp
  have em : F2 = F3 := em.symm
  subst em
  obtain ⟨hv, -⟩ := id hm
  subst hv
  obtain ⟨eq, hR⟩ := st_inked h hN hx hm
  refine z_icmp_eq C 1674 dL_law_1142 (by decide) (fun hh => ?_) (fun hh => ?_)
  · exact next _ _ (hR.up (by omega))
  · exact absurd (Value.int.inj (Option.some.inj eq)) hh
set_option maxRecDepth 100000 in
set_option maxHeartbeats 4000000 in
theorem lw_26 {l : Launch} {E : zE} {K : zK} {R : Room} {s : State} {mL : Nat} {q0 n : Nat} {sc : Nat → Int32} {N : Nat} {F : zF} {M : zM} (C : zC (cell := cellC E) l E (adrC E) okC (xeu E) (evC q0 n sc E) (AC E) K cL_law RL R s mL) (hRm : 20 ≤ R.frames ∧ 2000 ≤ R.locals) (hn : n ≤ 3072) (h : RR N F M) (hN : N ≤ 98000000) {i : Nat} (hi : i + 6 ≤ n) (next : ∀ F2 M2, RR (N + 1500) F2 M2 → Z K (zPP E (adrC E) (cellC E) okC (evC q0 n sc E) (F2, M2) s) 1674 [(0, .ref q0), (1, .ref (adrC E (0, 0, 0))), (2, .ref (adrC E (100, 0, 0))), (3, .int (nI i))] []) : Z K (zPP E (adrC E) (cellC E) okC (evC q0 n sc E) (F, M) s) 1147 [(0, .ref q0), (1, .ref (adrC E (0, 0, 0))), (2, .ref (adrC E (100, 0, 0))), (3, .int (nI i))] [] := by
  obtain ⟨hf, hl⟩ := hRm
  refine z_aload_n C 1 dL_law_1147 rfl ?_
  refine z_aload_n C 0 dL_law_1148 rfl ?_
  refine z_iload_n C 3 dL_law_1149 rfl ?_
  refine z_iconst C (v := 1) dL_law_1150 rfl ?_
  refine z_iadd C dL_law_1151 ?_
  refine z_top (nI (i + 1)) (nI_add i 1) ?_
  refine z_tald C (i + 1) (fun H h => h.1.2) rfl (by omega) (by omega) rfl dL_law_1152 ?_
  refine z_aload_n C 0 dL_law_1153 rfl ?_
  refine z_iload_n C 3 dL_law_1154 rfl ?_
  refine z_iconst C (v := 2) dL_law_1155 rfl ?_
  refine z_iadd C dL_law_1156 ?_
  refine z_top (nI (i + 2)) (nI_add i 2) ?_
  refine z_tald C (i + 2) (fun H h => h.1.2) rfl (by omega) (by omega) rfl dL_law_1157 ?_
  refine z_callV2 C (CXv (c_X6_keepers l E F h.1 (sc (i + 1)) (sc (i + 2)))) okC_x rfl rfl q_L_127 ⟨by omega, by omega⟩ (Nat.le_of_ble_eq_true rfl) dL_law_1158 (fun v X hp => ?_)
  obtain ⟨F2, M1⟩ := X
  obtain ⟨hx, em⟩ := hp
  have em : M = M1 := em.symm
  subst em
  obtain ⟨hv, -⟩ := id hx
  subst hv
  refine z_aload_n C 2 dL_law_1161 rfl ?_
  refine z_aload_n C 0 dL_law_1162 rfl ?_
  refine z_iload_n C 3 dL_law_1163 rfl ?_
  refine z_iconst C (v := 1) dL_law_1164 rfl ?_
  refine z_iadd C dL_law_1165 ?_
  refine z_top (nI (i + 1)) (nI_add i 1) ?_
  refine z_tald C (i + 1) (fun H h => h.1.2) rfl (by omega) (by omega) rfl dL_law_1166 ?_
  refine z_aload_n C 0 dL_law_1167 rfl ?_
  refine z_iload_n C 3 dL_law_1168 rfl ?_
  refine z_iconst C (v := 2) dL_law_1169 rfl ?_
  refine z_iadd C dL_law_1170 ?_
  refine z_top (nI (i + 2)) (nI_add i 2) ?_
  refine z_tald C (i + 2) (fun H h => h.1.2) rfl (by omega) (by omega) rfl dL_law_1171 ?_
  refine z_callV2 C (CYv (c_X7_keepers l (E2 E) M h.z h.2.2.1 (by omega) (sc (i + 1)) (sc (i + 2)))) okC_m rfl rfl q_L_130 ⟨by omega, by omega⟩ (Nat.le_of_ble_eq_true rfl) dL_law_1172 (fun v X hp => ?_)
  obtain ⟨F3, M2⟩ := X
  obtain ⟨hm, em⟩ := hp
  have em : F2 = F3 := em.symm
  subst em
  obtain ⟨hv, -⟩ := id hm
  subst hv
  obtain ⟨eq, hR⟩ := st_keepers h hN hx hm
  refine z_icmp_eq C 1674 dL_law_1175 (by decide) (fun hh => ?_) (fun hh => ?_)
  · exact next _ _ (hR.up (by omega))
  · exact absurd (Value.int.inj (Option.some.inj eq)) hh
set_option maxRecDepth 100000 in
set_option maxHeartbeats 4000000 in
theorem lw_27 {l : Launch} {E : zE} {K : zK} {R : Room} {s : State} {mL : Nat} {q0 n : Nat} {sc : Nat → Int32} {N : Nat} {F : zF} {M : zM} (C : zC (cell := cellC E) l E (adrC E) okC (xeu E) (evC q0 n sc E) (AC E) K cL_law RL R s mL) (hRm : 20 ≤ R.frames ∧ 2000 ≤ R.locals) (hn : n ≤ 3072) (h : RR N F M) (hN : N ≤ 98000000) {i : Nat} (hi : i + 6 ≤ n) (next : ∀ F2 M2, RR (N + 1500) F2 M2 → Z K (zPP E (adrC E) (cellC E) okC (evC q0 n sc E) (F2, M2) s) 1674 [(0, .ref q0), (1, .ref (adrC E (0, 0, 0))), (2, .ref (adrC E (100, 0, 0))), (3, .int (nI i))] []) : Z K (zPP E (adrC E) (cellC E) okC (evC q0 n sc E) (F, M) s) 1180 [(0, .ref q0), (1, .ref (adrC E (0, 0, 0))), (2, .ref (adrC E (100, 0, 0))), (3, .int (nI i))] [] := by
  obtain ⟨hf, hl⟩ := hRm
  refine z_aload_n C 1 dL_law_1180 rfl ?_
  refine z_aload_n C 0 dL_law_1181 rfl ?_
  refine z_iload_n C 3 dL_law_1182 rfl ?_
  refine z_iconst C (v := 1) dL_law_1183 rfl ?_
  refine z_iadd C dL_law_1184 ?_
  refine z_top (nI (i + 1)) (nI_add i 1) ?_
  refine z_tald C (i + 1) (fun H h => h.1.2) rfl (by omega) (by omega) rfl dL_law_1185 ?_
  refine z_aload_n C 0 dL_law_1186 rfl ?_
  refine z_iload_n C 3 dL_law_1187 rfl ?_
  refine z_iconst C (v := 2) dL_law_1188 rfl ?_
  refine z_iadd C dL_law_1189 ?_
  refine z_top (nI (i + 2)) (nI_add i 2) ?_
  refine z_tald C (i + 2) (fun H h => h.1.2) rfl (by omega) (by omega) rfl dL_law_1190 ?_
  refine z_callV2 C (CXv (c_X6_bored l E F h.1 (sc (i + 1)) (sc (i + 2)))) okC_x rfl rfl q_L_131 ⟨by omega, by omega⟩ (Nat.le_of_ble_eq_true rfl) dL_law_1191 (fun v X hp => ?_)
  obtain ⟨F2, M1⟩ := X
  obtain ⟨hx, em⟩ := hp
  have em : M = M1 := em.symm
  subst em
  obtain ⟨hv, -⟩ := id hx
  subst hv
  refine z_aload_n C 2 dL_law_1194 rfl ?_
  refine z_aload_n C 0 dL_law_1195 rfl ?_
  refine z_iload_n C 3 dL_law_1196 rfl ?_
  refine z_iconst C (v := 1) dL_law_1197 rfl ?_
  refine z_iadd C dL_law_1198 ?_
  refine z_top (nI (i + 1)) (nI_add i 1) ?_
  refine z_tald C (i + 1) (fun H h => h.1.2) rfl (by omega) (by omega) rfl dL_law_1199 ?_
  refine z_aload_n C 0 dL_law_1200 rfl ?_
  refine z_iload_n C 3 dL_law_1201 rfl ?_
  refine z_iconst C (v := 2) dL_law_1202 rfl ?_
  refine z_iadd C dL_law_1203 ?_
  refine z_top (nI (i + 2)) (nI_add i 2) ?_
  refine z_tald C (i + 2) (fun H h => h.1.2) rfl (by omega) (by omega) rfl dL_law_1204 ?_
  refine z_callV2 C (CYv (c_X7_bored l (E2 E) M h.z h.2.2.1 (by omega) (sc (i + 1)) (sc (i + 2)))) okC_m rfl rfl q_L_134 ⟨by omega, by omega⟩ (Nat.le_of_ble_eq_true rfl) dL_law_1205 (fun v X hp => ?_)
  obtain ⟨F3, M2⟩ := X
  obtain ⟨hm, em⟩ := hp
  have em : F2 = F3 := em.symm
  subst em
  obtain ⟨hv, -⟩ := id hm
  subst hv
  obtain ⟨eq, hR⟩ := st_bored h hN hx hm
  refine z_icmp_eq C 1674 dL_law_1208 (by decide) (fun hh => ?_) (fun hh => ?_)
  · exact next _ _ (hR.up (by omega))
  · exact absurd (Value.int.inj (Option.some.inj eq)) hh
set_option maxRecDepth 100000 in
set_option maxHeartbeats 4000000 in
theorem lw_28 {l : Launch} {E : zE} {K : zK} {R : Room} {s : State} {mL : Nat} {q0 n : Nat} {sc : Nat → Int32} {N : Nat} {F : zF} {M : zM} (C : zC (cell := cellC E) l E (adrC E) okC (xeu E) (evC q0 n sc E) (AC E) K cL_law RL R s mL) (hRm : 20 ≤ R.frames ∧ 2000 ≤ R.locals) (hn : n ≤ 3072) (h : RR N F M) (hN : N ≤ 98000000) {i : Nat} (hi : i + 6 ≤ n) (next : ∀ F2 M2, RR (N + 1500) F2 M2 → Z K (zPP E (adrC E) (cellC E) okC (evC q0 n sc E) (F2, M2) s) 1674 [(0, .ref q0), (1, .ref (adrC E (0, 0, 0))), (2, .ref (adrC E (100, 0, 0))), (3, .int (nI i))] []) : Z K (zPP E (adrC E) (cellC E) okC (evC q0 n sc E) (F, M) s) 1213 [(0, .ref q0), (1, .ref (adrC E (0, 0, 0))), (2, .ref (adrC E (100, 0, 0))), (3, .int (nI i))] [] := by
  obtain ⟨hf, hl⟩ := hRm
  refine z_aload_n C 1 dL_law_1213 rfl ?_
  refine z_aload_n C 0 dL_law_1214 rfl ?_
  refine z_iload_n C 3 dL_law_1215 rfl ?_
  refine z_iconst C (v := 1) dL_law_1216 rfl ?_
  refine z_iadd C dL_law_1217 ?_
  refine z_top (nI (i + 1)) (nI_add i 1) ?_
  refine z_tald C (i + 1) (fun H h => h.1.2) rfl (by omega) (by omega) rfl dL_law_1218 ?_
  refine z_callV1 C (CXv (c_X6_bank l E F h.1 (sc (i + 1)))) okC_x rfl rfl q_L_135 ⟨by omega, by omega⟩ (Nat.le_of_ble_eq_true rfl) dL_law_1219 (fun v X hp => ?_)
  obtain ⟨F2, M1⟩ := X
  obtain ⟨hx, em⟩ := hp
  have em : M = M1 := em.symm
  subst em
  obtain ⟨hv, -⟩ := id hx
  subst hv
  refine z_aload_n C 2 dL_law_1222 rfl ?_
  refine z_aload_n C 0 dL_law_1223 rfl ?_
  refine z_iload_n C 3 dL_law_1224 rfl ?_
  refine z_iconst C (v := 1) dL_law_1225 rfl ?_
  refine z_iadd C dL_law_1226 ?_
  refine z_top (nI (i + 1)) (nI_add i 1) ?_
  refine z_tald C (i + 1) (fun H h => h.1.2) rfl (by omega) (by omega) rfl dL_law_1227 ?_
  refine z_callV1 C (CYv (c_X7_bank l (E2 E) M h.z h.2.2.1 (by omega) (sc (i + 1)))) okC_m rfl rfl q_L_138 ⟨by omega, by omega⟩ (Nat.le_of_ble_eq_true rfl) dL_law_1228 (fun v X hp => ?_)
  obtain ⟨F3, M2⟩ := X
  obtain ⟨hm, em⟩ := hp
  have em : F2 = F3 := em.symm
  subst em
  obtain ⟨hv, -⟩ := id hm
  subst hv
  obtain ⟨eq, hR⟩ := st_bank h hN hx hm
  refine z_icmp_eq C 1674 dL_law_1231 (by decide) (fun hh => ?_) (fun hh => ?_)
  · exact next _ _ (hR.up (by omega))
  · exact absurd (Value.int.inj (Option.some.inj eq)) hh
set_option maxRecDepth 100000 in
set_option maxHeartbeats 4000000 in
theorem lw_29 {l : Launch} {E : zE} {K : zK} {R : Room} {s : State} {mL : Nat} {q0 n : Nat} {sc : Nat → Int32} {N : Nat} {F : zF} {M : zM} (C : zC (cell := cellC E) l E (adrC E) okC (xeu E) (evC q0 n sc E) (AC E) K cL_law RL R s mL) (hRm : 20 ≤ R.frames ∧ 2000 ≤ R.locals) (hn : n ≤ 3072) (h : RR N F M) (hN : N ≤ 98000000) {i : Nat} (hi : i + 6 ≤ n) (next : ∀ F2 M2, RR (N + 1500) F2 M2 → Z K (zPP E (adrC E) (cellC E) okC (evC q0 n sc E) (F2, M2) s) 1674 [(0, .ref q0), (1, .ref (adrC E (0, 0, 0))), (2, .ref (adrC E (100, 0, 0))), (3, .int (nI i))] []) : Z K (zPP E (adrC E) (cellC E) okC (evC q0 n sc E) (F, M) s) 1236 [(0, .ref q0), (1, .ref (adrC E (0, 0, 0))), (2, .ref (adrC E (100, 0, 0))), (3, .int (nI i))] [] := by
  obtain ⟨hf, hl⟩ := hRm
  refine z_aload_n C 1 dL_law_1236 rfl ?_
  refine z_aload_n C 0 dL_law_1237 rfl ?_
  refine z_iload_n C 3 dL_law_1238 rfl ?_
  refine z_iconst C (v := 1) dL_law_1239 rfl ?_
  refine z_iadd C dL_law_1240 ?_
  refine z_top (nI (i + 1)) (nI_add i 1) ?_
  refine z_tald C (i + 1) (fun H h => h.1.2) rfl (by omega) (by omega) rfl dL_law_1241 ?_
  refine z_aload_n C 0 dL_law_1242 rfl ?_
  refine z_iload_n C 3 dL_law_1243 rfl ?_
  refine z_iconst C (v := 2) dL_law_1244 rfl ?_
  refine z_iadd C dL_law_1245 ?_
  refine z_top (nI (i + 2)) (nI_add i 2) ?_
  refine z_tald C (i + 2) (fun H h => h.1.2) rfl (by omega) (by omega) rfl dL_law_1246 ?_
  refine z_callV2 C (CXv (c_X6_rot l E F h.1 (sc (i + 1)) (sc (i + 2)))) okC_x rfl rfl q_L_139 ⟨by omega, by omega⟩ (Nat.le_of_ble_eq_true rfl) dL_law_1247 (fun v X hp => ?_)
  obtain ⟨F2, M1⟩ := X
  obtain ⟨hx, em⟩ := hp
  have em : M = M1 := em.symm
  subst em
  obtain ⟨hv, -⟩ := id hx
  subst hv
  refine z_aload_n C 2 dL_law_1250 rfl ?_
  refine z_aload_n C 0 dL_law_1251 rfl ?_
  refine z_iload_n C 3 dL_law_1252 rfl ?_
  refine z_iconst C (v := 1) dL_law_1253 rfl ?_
  refine z_iadd C dL_law_1254 ?_
  refine z_top (nI (i + 1)) (nI_add i 1) ?_
  refine z_tald C (i + 1) (fun H h => h.1.2) rfl (by omega) (by omega) rfl dL_law_1255 ?_
  refine z_aload_n C 0 dL_law_1256 rfl ?_
  refine z_iload_n C 3 dL_law_1257 rfl ?_
  refine z_iconst C (v := 2) dL_law_1258 rfl ?_
  refine z_iadd C dL_law_1259 ?_
  refine z_top (nI (i + 2)) (nI_add i 2) ?_
  refine z_tald C (i + 2) (fun H h => h.1.2) rfl (by omega) (by omega) rfl dL_law_1260 ?_
  refine z_callV2 C (CYv (c_X7_rot l (E2 E) M h.z h.2.2.1 (by omega) (sc (i + 1)) (sc (i + 2)))) okC_m rfl rfl q_L_142 ⟨by omega, by omega⟩ (Nat.le_of_ble_eq_true rfl) dL_law_1261 (fun v X hp => ?_)
  obtain ⟨F3, M2⟩ := X
  obtain ⟨hm, em⟩ := hp
  have em : F2 = F3 := em.symm
  subst em
  obtain ⟨hv, -⟩ := id hm
  subst hv
  obtain ⟨eq, hR⟩ := st_rot h hN hx hm
  refine z_icmp_eq C 1674 dL_law_1264 (by decide) (fun hh => ?_) (fun hh => ?_)
  · exact next _ _ (hR.up (by omega))
  · exact absurd (Value.int.inj (Option.some.inj eq)) hh
set_option maxRecDepth 100000 in
set_option maxHeartbeats 4000000 in
theorem lw_30 {l : Launch} {E : zE} {K : zK} {R : Room} {s : State} {mL : Nat} {q0 n : Nat} {sc : Nat → Int32} {N : Nat} {F : zF} {M : zM} (C : zC (cell := cellC E) l E (adrC E) okC (xeu E) (evC q0 n sc E) (AC E) K cL_law RL R s mL) (hRm : 20 ≤ R.frames ∧ 2000 ≤ R.locals) (hn : n ≤ 3072) (h : RR N F M) (hN : N ≤ 98000000) {i : Nat} (hi : i + 6 ≤ n) (next : ∀ F2 M2, RR (N + 1500) F2 M2 → Z K (zPP E (adrC E) (cellC E) okC (evC q0 n sc E) (F2, M2) s) 1674 [(0, .ref q0), (1, .ref (adrC E (0, 0, 0))), (2, .ref (adrC E (100, 0, 0))), (3, .int (nI i))] []) : Z K (zPP E (adrC E) (cellC E) okC (evC q0 n sc E) (F, M) s) 1269 [(0, .ref q0), (1, .ref (adrC E (0, 0, 0))), (2, .ref (adrC E (100, 0, 0))), (3, .int (nI i))] [] := by
  obtain ⟨hf, hl⟩ := hRm
  refine z_aload_n C 1 dL_law_1269 rfl ?_
  refine z_aload_n C 0 dL_law_1270 rfl ?_
  refine z_iload_n C 3 dL_law_1271 rfl ?_
  refine z_iconst C (v := 1) dL_law_1272 rfl ?_
  refine z_iadd C dL_law_1273 ?_
  refine z_top (nI (i + 1)) (nI_add i 1) ?_
  refine z_tald C (i + 1) (fun H h => h.1.2) rfl (by omega) (by omega) rfl dL_law_1274 ?_
  refine z_aload_n C 0 dL_law_1275 rfl ?_
  refine z_iload_n C 3 dL_law_1276 rfl ?_
  refine z_iconst C (v := 2) dL_law_1277 rfl ?_
  refine z_iadd C dL_law_1278 ?_
  refine z_top (nI (i + 2)) (nI_add i 2) ?_
  refine z_tald C (i + 2) (fun H h => h.1.2) rfl (by omega) (by omega) rfl dL_law_1279 ?_
  refine z_callV2 C (CXv (c_X6_trust l E F h.1 (sc (i + 1)) (sc (i + 2)))) okC_x rfl rfl q_L_143 ⟨by omega, by omega⟩ (Nat.le_of_ble_eq_true rfl) dL_law_1280 (fun v X hp => ?_)
  obtain ⟨F2, M1⟩ := X
  obtain ⟨hx, em⟩ := hp
  have em : M = M1 := em.symm
  subst em
  obtain ⟨hv, -⟩ := id hx
  subst hv
  refine z_aload_n C 2 dL_law_1283 rfl ?_
  refine z_aload_n C 0 dL_law_1284 rfl ?_
  refine z_iload_n C 3 dL_law_1285 rfl ?_
  refine z_iconst C (v := 1) dL_law_1286 rfl ?_
  refine z_iadd C dL_law_1287 ?_
  refine z_top (nI (i + 1)) (nI_add i 1) ?_
  refine z_tald C (i + 1) (fun H h => h.1.2) rfl (by omega) (by omega) rfl dL_law_1288 ?_
  refine z_aload_n C 0 dL_law_1289 rfl ?_
  refine z_iload_n C 3 dL_law_1290 rfl ?_
  refine z_iconst C (v := 2) dL_law_1291 rfl ?_
  refine z_iadd C dL_law_1292 ?_
  refine z_top (nI (i + 2)) (nI_add i 2) ?_
  refine z_tald C (i + 2) (fun H h => h.1.2) rfl (by omega) (by omega) rfl dL_law_1293 ?_
  refine z_callV2 C (CYv (c_X7_trust l (E2 E) M h.z h.2.2.1 (by omega) (sc (i + 1)) (sc (i + 2)))) okC_m rfl rfl q_L_146 ⟨by omega, by omega⟩ (Nat.le_of_ble_eq_true rfl) dL_law_1294 (fun v X hp => ?_)
  obtain ⟨F3, M2⟩ := X
  obtain ⟨hm, em⟩ := hp
  have em : F2 = F3 := em.symm
  subst em
  obtain ⟨hv, -⟩ := id hm
  subst hv
  obtain ⟨eq, hR⟩ := st_trust h hN hx hm
  refine z_icmp_eq C 1674 dL_law_1297 (by decide) (fun hh => ?_) (fun hh => ?_)
  · exact next _ _ (hR.up (by omega))
  · exact absurd (Value.int.inj (Option.some.inj eq)) hh
set_option maxRecDepth 100000 in
set_option maxHeartbeats 4000000 in
theorem lw_31 {l : Launch} {E : zE} {K : zK} {R : Room} {s : State} {mL : Nat} {q0 n : Nat} {sc : Nat → Int32} {N : Nat} {F : zF} {M : zM} (C : zC (cell := cellC E) l E (adrC E) okC (xeu E) (evC q0 n sc E) (AC E) K cL_law RL R s mL) (hRm : 20 ≤ R.frames ∧ 2000 ≤ R.locals) (hn : n ≤ 3072) (h : RR N F M) (hN : N ≤ 98000000) {i : Nat} (hi : i + 6 ≤ n) (next : ∀ F2 M2, RR (N + 1500) F2 M2 → Z K (zPP E (adrC E) (cellC E) okC (evC q0 n sc E) (F2, M2) s) 1674 [(0, .ref q0), (1, .ref (adrC E (0, 0, 0))), (2, .ref (adrC E (100, 0, 0))), (3, .int (nI i))] []) : Z K (zPP E (adrC E) (cellC E) okC (evC q0 n sc E) (F, M) s) 1302 [(0, .ref q0), (1, .ref (adrC E (0, 0, 0))), (2, .ref (adrC E (100, 0, 0))), (3, .int (nI i))] [] := by
  obtain ⟨hf, hl⟩ := hRm
  refine z_aload_n C 1 dL_law_1302 rfl ?_
  refine z_aload_n C 0 dL_law_1303 rfl ?_
  refine z_iload_n C 3 dL_law_1304 rfl ?_
  refine z_iconst C (v := 1) dL_law_1305 rfl ?_
  refine z_iadd C dL_law_1306 ?_
  refine z_top (nI (i + 1)) (nI_add i 1) ?_
  refine z_tald C (i + 1) (fun H h => h.1.2) rfl (by omega) (by omega) rfl dL_law_1307 ?_
  refine z_aload_n C 0 dL_law_1308 rfl ?_
  refine z_iload_n C 3 dL_law_1309 rfl ?_
  refine z_iconst C (v := 2) dL_law_1310 rfl ?_
  refine z_iadd C dL_law_1311 ?_
  refine z_top (nI (i + 2)) (nI_add i 2) ?_
  refine z_tald C (i + 2) (fun H h => h.1.2) rfl (by omega) (by omega) rfl dL_law_1312 ?_
  refine z_callV2 C (CXv (c_X6_judge l E F h.1 (sc (i + 1)) (sc (i + 2)))) okC_x rfl rfl q_L_147 ⟨by omega, by omega⟩ (Nat.le_of_ble_eq_true rfl) dL_law_1313 (fun v X hp => ?_)
  obtain ⟨F2, M1⟩ := X
  obtain ⟨hx, em⟩ := hp
  have em : M = M1 := em.symm
  subst em
  obtain ⟨hv, -⟩ := id hx
  subst hv
  refine z_aload_n C 2 dL_law_1316 rfl ?_
  refine z_aload_n C 0 dL_law_1317 rfl ?_
  refine z_iload_n C 3 dL_law_1318 rfl ?_
  refine z_iconst C (v := 1) dL_law_1319 rfl ?_
  refine z_iadd C dL_law_1320 ?_
  refine z_top (nI (i + 1)) (nI_add i 1) ?_
  refine z_tald C (i + 1) (fun H h => h.1.2) rfl (by omega) (by omega) rfl dL_law_1321 ?_
  refine z_aload_n C 0 dL_law_1322 rfl ?_
  refine z_iload_n C 3 dL_law_1323 rfl ?_
  refine z_iconst C (v := 2) dL_law_1324 rfl ?_
  refine z_iadd C dL_law_1325 ?_
  refine z_top (nI (i + 2)) (nI_add i 2) ?_
  refine z_tald C (i + 2) (fun H h => h.1.2) rfl (by omega) (by omega) rfl dL_law_1326 ?_
  refine z_callV2 C (CYv (c_X7_judge l (E2 E) M h.z h.2.2.1 (by omega) h.hsz h.h012 (sc (i + 1)) (sc (i + 2)))) okC_m rfl rfl q_L_150 ⟨by omega, by omega⟩ (Nat.le_of_ble_eq_true rfl) dL_law_1327 (fun v X hp => ?_)
  obtain ⟨F3, M2⟩ := X
  obtain ⟨hm, em⟩ := hp
  have em : F2 = F3 := em.symm
  subst em
  obtain ⟨hv, -⟩ := id hm
  subst hv
  obtain ⟨eq, hR⟩ := st_judge h hN hx hm
  refine z_icmp_eq C 1674 dL_law_1330 (by decide) (fun hh => ?_) (fun hh => ?_)
  · exact next _ _ (hR.up (by omega))
  · exact absurd (Value.int.inj (Option.some.inj eq)) hh
set_option maxRecDepth 100000 in
set_option maxHeartbeats 4000000 in
theorem lw_32 {l : Launch} {E : zE} {K : zK} {R : Room} {s : State} {mL : Nat} {q0 n : Nat} {sc : Nat → Int32} {N : Nat} {F : zF} {M : zM} (C : zC (cell := cellC E) l E (adrC E) okC (xeu E) (evC q0 n sc E) (AC E) K cL_law RL R s mL) (hRm : 20 ≤ R.frames ∧ 2000 ≤ R.locals) (hn : n ≤ 3072) (h : RR N F M) (hN : N ≤ 98000000) {i : Nat} (hi : i + 6 ≤ n) (next : ∀ F2 M2, RR (N + 1500) F2 M2 → Z K (zPP E (adrC E) (cellC E) okC (evC q0 n sc E) (F2, M2) s) 1674 [(0, .ref q0), (1, .ref (adrC E (0, 0, 0))), (2, .ref (adrC E (100, 0, 0))), (3, .int (nI i))] []) : Z K (zPP E (adrC E) (cellC E) okC (evC q0 n sc E) (F, M) s) 1335 [(0, .ref q0), (1, .ref (adrC E (0, 0, 0))), (2, .ref (adrC E (100, 0, 0))), (3, .int (nI i))] [] := by
  obtain ⟨hf, hl⟩ := hRm
  refine z_aload_n C 1 dL_law_1335 rfl ?_
  refine z_aload_n C 0 dL_law_1336 rfl ?_
  refine z_iload_n C 3 dL_law_1337 rfl ?_
  refine z_iconst C (v := 1) dL_law_1338 rfl ?_
  refine z_iadd C dL_law_1339 ?_
  refine z_top (nI (i + 1)) (nI_add i 1) ?_
  refine z_tald C (i + 1) (fun H h => h.1.2) rfl (by omega) (by omega) rfl dL_law_1340 ?_
  refine z_aload_n C 0 dL_law_1341 rfl ?_
  refine z_iload_n C 3 dL_law_1342 rfl ?_
  refine z_iconst C (v := 2) dL_law_1343 rfl ?_
  refine z_iadd C dL_law_1344 ?_
  refine z_top (nI (i + 2)) (nI_add i 2) ?_
  refine z_tald C (i + 2) (fun H h => h.1.2) rfl (by omega) (by omega) rfl dL_law_1345 ?_
  refine z_aload_n C 0 dL_law_1346 rfl ?_
  refine z_iload_n C 3 dL_law_1347 rfl ?_
  refine z_iconst C (v := 3) dL_law_1348 rfl ?_
  refine z_iadd C dL_law_1349 ?_
  refine z_top (nI (i + 3)) (nI_add i 3) ?_
  refine z_tald C (i + 3) (fun H h => h.1.2) rfl (by omega) (by omega) rfl dL_law_1350 ?_
  refine z_callV3 C (CXv (c_X6_told l E F h.1 (sc (i + 1)) (sc (i + 2)) (sc (i + 3)))) okC_x rfl rfl q_L_151 ⟨by omega, by omega⟩ (Nat.le_of_ble_eq_true rfl) dL_law_1351 (fun v X hp => ?_)
  obtain ⟨F2, M1⟩ := X
  obtain ⟨hx, em⟩ := hp
  have em : M = M1 := em.symm
  subst em
  obtain ⟨hv, -⟩ := id hx
  subst hv
  refine z_aload_n C 2 dL_law_1354 rfl ?_
  refine z_aload_n C 0 dL_law_1355 rfl ?_
  refine z_iload_n C 3 dL_law_1356 rfl ?_
  refine z_iconst C (v := 1) dL_law_1357 rfl ?_
  refine z_iadd C dL_law_1358 ?_
  refine z_top (nI (i + 1)) (nI_add i 1) ?_
  refine z_tald C (i + 1) (fun H h => h.1.2) rfl (by omega) (by omega) rfl dL_law_1359 ?_
  refine z_aload_n C 0 dL_law_1360 rfl ?_
  refine z_iload_n C 3 dL_law_1361 rfl ?_
  refine z_iconst C (v := 2) dL_law_1362 rfl ?_
  refine z_iadd C dL_law_1363 ?_
  refine z_top (nI (i + 2)) (nI_add i 2) ?_
  refine z_tald C (i + 2) (fun H h => h.1.2) rfl (by omega) (by omega) rfl dL_law_1364 ?_
  refine z_aload_n C 0 dL_law_1365 rfl ?_
  refine z_iload_n C 3 dL_law_1366 rfl ?_
  refine z_iconst C (v := 3) dL_law_1367 rfl ?_
  refine z_iadd C dL_law_1368 ?_
  refine z_top (nI (i + 3)) (nI_add i 3) ?_
  refine z_tald C (i + 3) (fun H h => h.1.2) rfl (by omega) (by omega) rfl dL_law_1369 ?_
  refine z_callV3 C (CYv (c_X7_told l (E2 E) M h.z h.2.2.1 (by omega) h.hsz h.h012 (sc (i + 1)) (sc (i + 2)) (sc (i + 3)))) okC_m rfl rfl q_L_154 ⟨by omega, by omega⟩ (Nat.le_of_ble_eq_true rfl) dL_law_1370 (fun v X hp => ?_)
  obtain ⟨F3, M2⟩ := X
  obtain ⟨hm, em⟩ := hp
  have em : F2 = F3 := em.symm
  subst em
  obtain ⟨hv, -⟩ := id hm
  subst hv
  obtain ⟨eq, hR⟩ := st_told h hN hx hm
  refine z_icmp_eq C 1674 dL_law_1373 (by decide) (fun hh => ?_) (fun hh => ?_)
  · exact next _ _ (hR.up (by omega))
  · exact absurd (Value.int.inj (Option.some.inj eq)) hh
set_option maxRecDepth 100000 in
set_option maxHeartbeats 4000000 in
theorem lw_33 {l : Launch} {E : zE} {K : zK} {R : Room} {s : State} {mL : Nat} {q0 n : Nat} {sc : Nat → Int32} {N : Nat} {F : zF} {M : zM} (C : zC (cell := cellC E) l E (adrC E) okC (xeu E) (evC q0 n sc E) (AC E) K cL_law RL R s mL) (hRm : 20 ≤ R.frames ∧ 2000 ≤ R.locals) (hn : n ≤ 3072) (h : RR N F M) (hN : N ≤ 98000000) {i : Nat} (hi : i + 6 ≤ n) (next : ∀ F2 M2, RR (N + 1500) F2 M2 → Z K (zPP E (adrC E) (cellC E) okC (evC q0 n sc E) (F2, M2) s) 1674 [(0, .ref q0), (1, .ref (adrC E (0, 0, 0))), (2, .ref (adrC E (100, 0, 0))), (3, .int (nI i))] []) : Z K (zPP E (adrC E) (cellC E) okC (evC q0 n sc E) (F, M) s) 1378 [(0, .ref q0), (1, .ref (adrC E (0, 0, 0))), (2, .ref (adrC E (100, 0, 0))), (3, .int (nI i))] [] := by
  obtain ⟨hf, hl⟩ := hRm
  refine z_aload_n C 1 dL_law_1378 rfl ?_
  refine z_aload_n C 0 dL_law_1379 rfl ?_
  refine z_iload_n C 3 dL_law_1380 rfl ?_
  refine z_iconst C (v := 1) dL_law_1381 rfl ?_
  refine z_iadd C dL_law_1382 ?_
  refine z_top (nI (i + 1)) (nI_add i 1) ?_
  refine z_tald C (i + 1) (fun H h => h.1.2) rfl (by omega) (by omega) rfl dL_law_1383 ?_
  refine z_aload_n C 0 dL_law_1384 rfl ?_
  refine z_iload_n C 3 dL_law_1385 rfl ?_
  refine z_iconst C (v := 2) dL_law_1386 rfl ?_
  refine z_iadd C dL_law_1387 ?_
  refine z_top (nI (i + 2)) (nI_add i 2) ?_
  refine z_tald C (i + 2) (fun H h => h.1.2) rfl (by omega) (by omega) rfl dL_law_1388 ?_
  refine z_callV2 C (CXv (c_X6_done l E F h.1 (sc (i + 1)) (sc (i + 2)))) okC_x rfl rfl q_L_155 ⟨by omega, by omega⟩ (Nat.le_of_ble_eq_true rfl) dL_law_1389 (fun v X hp => ?_)
  obtain ⟨F2, M1⟩ := X
  obtain ⟨hx, em⟩ := hp
  have em : M = M1 := em.symm
  subst em
  obtain ⟨hv, -⟩ := id hx
  subst hv
  refine z_aload_n C 2 dL_law_1392 rfl ?_
  refine z_aload_n C 0 dL_law_1393 rfl ?_
  refine z_iload_n C 3 dL_law_1394 rfl ?_
  refine z_iconst C (v := 1) dL_law_1395 rfl ?_
  refine z_iadd C dL_law_1396 ?_
  refine z_top (nI (i + 1)) (nI_add i 1) ?_
  refine z_tald C (i + 1) (fun H h => h.1.2) rfl (by omega) (by omega) rfl dL_law_1397 ?_
  refine z_aload_n C 0 dL_law_1398 rfl ?_
  refine z_iload_n C 3 dL_law_1399 rfl ?_
  refine z_iconst C (v := 2) dL_law_1400 rfl ?_
  refine z_iadd C dL_law_1401 ?_
  refine z_top (nI (i + 2)) (nI_add i 2) ?_
  refine z_tald C (i + 2) (fun H h => h.1.2) rfl (by omega) (by omega) rfl dL_law_1402 ?_
  refine z_callV2 C (CYv (c_X7_done l (E2 E) M h.z h.2.2.1 (by omega) h.hsz h.h012 (sc (i + 1)) (sc (i + 2)))) okC_m rfl rfl q_L_158 ⟨by omega, by omega⟩ (Nat.le_of_ble_eq_true rfl) dL_law_1403 (fun v X hp => ?_)
  obtain ⟨F3, M2⟩ := X
  obtain ⟨hm, em⟩ := hp
  have em : F2 = F3 := em.symm
  subst em
  obtain ⟨hv, -⟩ := id hm
  subst hv
  obtain ⟨eq, hR⟩ := st_done h hN hx hm
  refine z_icmp_eq C 1674 dL_law_1406 (by decide) (fun hh => ?_) (fun hh => ?_)
  · exact next _ _ (hR.up (by omega))
  · exact absurd (Value.int.inj (Option.some.inj eq)) hh
set_option maxRecDepth 100000 in
set_option maxHeartbeats 4000000 in
theorem lw_34 {l : Launch} {E : zE} {K : zK} {R : Room} {s : State} {mL : Nat} {q0 n : Nat} {sc : Nat → Int32} {N : Nat} {F : zF} {M : zM} (C : zC (cell := cellC E) l E (adrC E) okC (xeu E) (evC q0 n sc E) (AC E) K cL_law RL R s mL) (hRm : 20 ≤ R.frames ∧ 2000 ≤ R.locals) (hn : n ≤ 3072) (h : RR N F M) (hN : N ≤ 98000000) {i : Nat} (hi : i + 6 ≤ n) (next : ∀ F2 M2, RR (N + 1500) F2 M2 → Z K (zPP E (adrC E) (cellC E) okC (evC q0 n sc E) (F2, M2) s) 1674 [(0, .ref q0), (1, .ref (adrC E (0, 0, 0))), (2, .ref (adrC E (100, 0, 0))), (3, .int (nI i))] []) : Z K (zPP E (adrC E) (cellC E) okC (evC q0 n sc E) (F, M) s) 1411 [(0, .ref q0), (1, .ref (adrC E (0, 0, 0))), (2, .ref (adrC E (100, 0, 0))), (3, .int (nI i))] [] := by
  obtain ⟨hf, hl⟩ := hRm
  refine z_aload_n C 1 dL_law_1411 rfl ?_
  refine z_aload_n C 0 dL_law_1412 rfl ?_
  refine z_iload_n C 3 dL_law_1413 rfl ?_
  refine z_iconst C (v := 1) dL_law_1414 rfl ?_
  refine z_iadd C dL_law_1415 ?_
  refine z_top (nI (i + 1)) (nI_add i 1) ?_
  refine z_tald C (i + 1) (fun H h => h.1.2) rfl (by omega) (by omega) rfl dL_law_1416 ?_
  refine z_aload_n C 0 dL_law_1417 rfl ?_
  refine z_iload_n C 3 dL_law_1418 rfl ?_
  refine z_iconst C (v := 2) dL_law_1419 rfl ?_
  refine z_iadd C dL_law_1420 ?_
  refine z_top (nI (i + 2)) (nI_add i 2) ?_
  refine z_tald C (i + 2) (fun H h => h.1.2) rfl (by omega) (by omega) rfl dL_law_1421 ?_
  refine z_callV2 C (CXv (c_X6_heap l E F h.1 (sc (i + 1)) (sc (i + 2)))) okC_x rfl rfl q_L_159 ⟨by omega, by omega⟩ (Nat.le_of_ble_eq_true rfl) dL_law_1422 (fun v X hp => ?_)
  obtain ⟨F2, M1⟩ := X
  obtain ⟨hx, em⟩ := hp
  have em : M = M1 := em.symm
  subst em
  obtain ⟨hv, -⟩ := id hx
  subst hv
  refine z_aload_n C 2 dL_law_1425 rfl ?_
  refine z_aload_n C 0 dL_law_1426 rfl ?_
  refine z_iload_n C 3 dL_law_1427 rfl ?_
  refine z_iconst C (v := 1) dL_law_1428 rfl ?_
  refine z_iadd C dL_law_1429 ?_
  refine z_top (nI (i + 1)) (nI_add i 1) ?_
  refine z_tald C (i + 1) (fun H h => h.1.2) rfl (by omega) (by omega) rfl dL_law_1430 ?_
  refine z_aload_n C 0 dL_law_1431 rfl ?_
  refine z_iload_n C 3 dL_law_1432 rfl ?_
  refine z_iconst C (v := 2) dL_law_1433 rfl ?_
  refine z_iadd C dL_law_1434 ?_
  refine z_top (nI (i + 2)) (nI_add i 2) ?_
  refine z_tald C (i + 2) (fun H h => h.1.2) rfl (by omega) (by omega) rfl dL_law_1435 ?_
  refine z_callV2 C (CYv (c_X7_heap l (E2 E) M h.z h.2.2.1 (by omega) (sc (i + 1)) (sc (i + 2)))) okC_m rfl rfl q_L_162 ⟨by omega, by omega⟩ (Nat.le_of_ble_eq_true rfl) dL_law_1436 (fun v X hp => ?_)
  obtain ⟨F3, M2⟩ := X
  obtain ⟨hm, em⟩ := hp
  have em : F2 = F3 := em.symm
  subst em
  obtain ⟨hv, -⟩ := id hm
  subst hv
  obtain ⟨eq, hR⟩ := st_heap h hN hx hm
  refine z_icmp_eq C 1674 dL_law_1439 (by decide) (fun hh => ?_) (fun hh => ?_)
  · exact next _ _ (hR.up (by omega))
  · exact absurd (Value.int.inj (Option.some.inj eq)) hh
set_option maxRecDepth 100000 in
set_option maxHeartbeats 4000000 in
theorem lw_35 {l : Launch} {E : zE} {K : zK} {R : Room} {s : State} {mL : Nat} {q0 n : Nat} {sc : Nat → Int32} {N : Nat} {F : zF} {M : zM} (C : zC (cell := cellC E) l E (adrC E) okC (xeu E) (evC q0 n sc E) (AC E) K cL_law RL R s mL) (hRm : 20 ≤ R.frames ∧ 2000 ≤ R.locals) (hn : n ≤ 3072) (h : RR N F M) (hN : N ≤ 98000000) {i : Nat} (hi : i + 6 ≤ n) (next : ∀ F2 M2, RR (N + 1500) F2 M2 → Z K (zPP E (adrC E) (cellC E) okC (evC q0 n sc E) (F2, M2) s) 1674 [(0, .ref q0), (1, .ref (adrC E (0, 0, 0))), (2, .ref (adrC E (100, 0, 0))), (3, .int (nI i))] []) : Z K (zPP E (adrC E) (cellC E) okC (evC q0 n sc E) (F, M) s) 1444 [(0, .ref q0), (1, .ref (adrC E (0, 0, 0))), (2, .ref (adrC E (100, 0, 0))), (3, .int (nI i))] [] := by
  obtain ⟨hf, hl⟩ := hRm
  refine z_aload_n C 1 dL_law_1444 rfl ?_
  refine z_aload_n C 0 dL_law_1445 rfl ?_
  refine z_iload_n C 3 dL_law_1446 rfl ?_
  refine z_iconst C (v := 1) dL_law_1447 rfl ?_
  refine z_iadd C dL_law_1448 ?_
  refine z_top (nI (i + 1)) (nI_add i 1) ?_
  refine z_tald C (i + 1) (fun H h => h.1.2) rfl (by omega) (by omega) rfl dL_law_1449 ?_
  refine z_aload_n C 0 dL_law_1450 rfl ?_
  refine z_iload_n C 3 dL_law_1451 rfl ?_
  refine z_iconst C (v := 2) dL_law_1452 rfl ?_
  refine z_iadd C dL_law_1453 ?_
  refine z_top (nI (i + 2)) (nI_add i 2) ?_
  refine z_tald C (i + 2) (fun H h => h.1.2) rfl (by omega) (by omega) rfl dL_law_1454 ?_
  refine z_callV2 C (CXv (c_X6_does l E F h.1 (sc (i + 1)) (sc (i + 2)))) okC_x rfl rfl q_L_163 ⟨by omega, by omega⟩ (Nat.le_of_ble_eq_true rfl) dL_law_1455 (fun v X hp => ?_)
  obtain ⟨F2, M1⟩ := X
  obtain ⟨hx, em⟩ := hp
  have em : M = M1 := em.symm
  subst em
  obtain ⟨hv, -⟩ := id hx
  subst hv
  refine z_aload_n C 2 dL_law_1458 rfl ?_
  refine z_aload_n C 0 dL_law_1459 rfl ?_
  refine z_iload_n C 3 dL_law_1460 rfl ?_
  refine z_iconst C (v := 1) dL_law_1461 rfl ?_
  refine z_iadd C dL_law_1462 ?_
  refine z_top (nI (i + 1)) (nI_add i 1) ?_
  refine z_tald C (i + 1) (fun H h => h.1.2) rfl (by omega) (by omega) rfl dL_law_1463 ?_
  refine z_aload_n C 0 dL_law_1464 rfl ?_
  refine z_iload_n C 3 dL_law_1465 rfl ?_
  refine z_iconst C (v := 2) dL_law_1466 rfl ?_
  refine z_iadd C dL_law_1467 ?_
  refine z_top (nI (i + 2)) (nI_add i 2) ?_
  refine z_tald C (i + 2) (fun H h => h.1.2) rfl (by omega) (by omega) rfl dL_law_1468 ?_
  refine z_callV2 C (CYv (c_X7_does l (E2 E) M h.z h.2.2.1 (by omega) (sc (i + 1)) (sc (i + 2)))) okC_m rfl rfl q_L_166 ⟨by omega, by omega⟩ (Nat.le_of_ble_eq_true rfl) dL_law_1469 (fun v X hp => ?_)
  obtain ⟨F3, M2⟩ := X
  obtain ⟨hm, em⟩ := hp
  have em : F2 = F3 := em.symm
  subst em
  obtain ⟨hv, -⟩ := id hm
  subst hv
  obtain ⟨eq, hR⟩ := st_does h hN hx hm
  refine z_icmp_eq C 1674 dL_law_1472 (by decide) (fun hh => ?_) (fun hh => ?_)
  · exact next _ _ (hR.up (by omega))
  · exact absurd (Value.int.inj (Option.some.inj eq)) hh
set_option maxRecDepth 100000 in
set_option maxHeartbeats 4000000 in
theorem lw_36 {l : Launch} {E : zE} {K : zK} {R : Room} {s : State} {mL : Nat} {q0 n : Nat} {sc : Nat → Int32} {N : Nat} {F : zF} {M : zM} (C : zC (cell := cellC E) l E (adrC E) okC (xeu E) (evC q0 n sc E) (AC E) K cL_law RL R s mL) (hRm : 20 ≤ R.frames ∧ 2000 ≤ R.locals) (hn : n ≤ 3072) (h : RR N F M) (hN : N ≤ 98000000) {i : Nat} (hi : i + 6 ≤ n) (next : ∀ F2 M2, RR (N + 1500) F2 M2 → Z K (zPP E (adrC E) (cellC E) okC (evC q0 n sc E) (F2, M2) s) 1674 [(0, .ref q0), (1, .ref (adrC E (0, 0, 0))), (2, .ref (adrC E (100, 0, 0))), (3, .int (nI i))] []) : Z K (zPP E (adrC E) (cellC E) okC (evC q0 n sc E) (F, M) s) 1477 [(0, .ref q0), (1, .ref (adrC E (0, 0, 0))), (2, .ref (adrC E (100, 0, 0))), (3, .int (nI i))] [] := by
  obtain ⟨hf, hl⟩ := hRm
  refine z_aload_n C 1 dL_law_1477 rfl ?_
  refine z_aload_n C 0 dL_law_1478 rfl ?_
  refine z_iload_n C 3 dL_law_1479 rfl ?_
  refine z_iconst C (v := 1) dL_law_1480 rfl ?_
  refine z_iadd C dL_law_1481 ?_
  refine z_top (nI (i + 1)) (nI_add i 1) ?_
  refine z_tald C (i + 1) (fun H h => h.1.2) rfl (by omega) (by omega) rfl dL_law_1482 ?_
  refine z_callV1 C (CXv (c_X6_minute l E F h.1 (sc (i + 1)))) okC_x rfl rfl q_L_167 ⟨by omega, by omega⟩ (Nat.le_of_ble_eq_true rfl) dL_law_1483 (fun v X hp => ?_)
  obtain ⟨F2, M1⟩ := X
  obtain ⟨hx, em⟩ := hp
  have em : M = M1 := em.symm
  subst em
  obtain ⟨hv, -⟩ := id hx
  subst hv
  refine z_aload_n C 2 dL_law_1486 rfl ?_
  refine z_aload_n C 0 dL_law_1487 rfl ?_
  refine z_iload_n C 3 dL_law_1488 rfl ?_
  refine z_iconst C (v := 1) dL_law_1489 rfl ?_
  refine z_iadd C dL_law_1490 ?_
  refine z_top (nI (i + 1)) (nI_add i 1) ?_
  refine z_tald C (i + 1) (fun H h => h.1.2) rfl (by omega) (by omega) rfl dL_law_1491 ?_
  refine z_callV1 C (CYv (c_X7_minute l (E2 E) M h.z h.2.2.1 (by omega) (sc (i + 1)))) okC_m rfl rfl q_L_170 ⟨by omega, by omega⟩ (Nat.le_of_ble_eq_true rfl) dL_law_1492 (fun v X hp => ?_)
  obtain ⟨F3, M2⟩ := X
  obtain ⟨hm, em⟩ := hp
  have em : F2 = F3 := em.symm
  subst em
  obtain ⟨hv, -⟩ := id hm
  subst hv
  obtain ⟨eq, hR⟩ := st_minute h hN hx hm
  refine z_icmp_eq C 1674 dL_law_1495 (by decide) (fun hh => ?_) (fun hh => ?_)
  · exact next _ _ (hR.up (by omega))
  · exact absurd (Value.int.inj (Option.some.inj eq)) hh
set_option maxRecDepth 100000 in
set_option maxHeartbeats 4000000 in
theorem lw_37 {l : Launch} {E : zE} {K : zK} {R : Room} {s : State} {mL : Nat} {q0 n : Nat} {sc : Nat → Int32} {N : Nat} {F : zF} {M : zM} (C : zC (cell := cellC E) l E (adrC E) okC (xeu E) (evC q0 n sc E) (AC E) K cL_law RL R s mL) (hRm : 20 ≤ R.frames ∧ 2000 ≤ R.locals) (hn : n ≤ 3072) (h : RR N F M) (hN : N ≤ 98000000) {i : Nat} (hi : i + 6 ≤ n) (next : ∀ F2 M2, RR (N + 1500) F2 M2 → Z K (zPP E (adrC E) (cellC E) okC (evC q0 n sc E) (F2, M2) s) 1674 [(0, .ref q0), (1, .ref (adrC E (0, 0, 0))), (2, .ref (adrC E (100, 0, 0))), (3, .int (nI i))] []) : Z K (zPP E (adrC E) (cellC E) okC (evC q0 n sc E) (F, M) s) 1500 [(0, .ref q0), (1, .ref (adrC E (0, 0, 0))), (2, .ref (adrC E (100, 0, 0))), (3, .int (nI i))] [] := by
  obtain ⟨hf, hl⟩ := hRm
  refine z_aload_n C 1 dL_law_1500 rfl ?_
  refine z_callV0 C (CXv (c_X6_night l E F h.1)) okC_x rfl rfl q_L_171 ⟨by omega, by omega⟩ (Nat.le_of_ble_eq_true rfl) dL_law_1501 (fun v X hp => ?_)
  obtain ⟨F2, M1⟩ := X
  obtain ⟨hx, em⟩ := hp
  have em : M = M1 := em.symm
  subst em
  obtain ⟨hv, -⟩ := id hx
  subst hv
  refine z_aload_n C 2 dL_law_1504 rfl ?_
  refine z_callV0 C (CYv (c_X7_night l (E2 E) M h.z h.2.2.1 (by omega))) okC_m rfl rfl q_L_174 ⟨by omega, by omega⟩ (Nat.le_of_ble_eq_true rfl) dL_law_1505 (fun v X hp => ?_)
  obtain ⟨F3, M2⟩ := X
  obtain ⟨hm, em⟩ := hp
  have em : F2 = F3 := em.symm
  subst em
  obtain ⟨hv, -⟩ := id hm
  subst hv
  obtain ⟨eq, hR⟩ := st_night h hN hx hm
  refine z_icmp_eq C 1674 dL_law_1508 (by decide) (fun hh => ?_) (fun hh => ?_)
  · exact next _ _ (hR.up (by omega))
  · exact absurd (Value.int.inj (Option.some.inj eq)) hh
set_option maxRecDepth 100000 in
set_option maxHeartbeats 4000000 in
theorem lw_38 {l : Launch} {E : zE} {K : zK} {R : Room} {s : State} {mL : Nat} {q0 n : Nat} {sc : Nat → Int32} {N : Nat} {F : zF} {M : zM} (C : zC (cell := cellC E) l E (adrC E) okC (xeu E) (evC q0 n sc E) (AC E) K cL_law RL R s mL) (hRm : 20 ≤ R.frames ∧ 2000 ≤ R.locals) (hn : n ≤ 3072) (h : RR N F M) (hN : N ≤ 98000000) {i : Nat} (hi : i + 6 ≤ n) (next : ∀ F2 M2, RR (N + 1500) F2 M2 → Z K (zPP E (adrC E) (cellC E) okC (evC q0 n sc E) (F2, M2) s) 1674 [(0, .ref q0), (1, .ref (adrC E (0, 0, 0))), (2, .ref (adrC E (100, 0, 0))), (3, .int (nI i))] []) : Z K (zPP E (adrC E) (cellC E) okC (evC q0 n sc E) (F, M) s) 1513 [(0, .ref q0), (1, .ref (adrC E (0, 0, 0))), (2, .ref (adrC E (100, 0, 0))), (3, .int (nI i))] [] := by
  obtain ⟨hf, hl⟩ := hRm
  refine z_aload_n C 1 dL_law_1513 rfl ?_
  refine z_aload_n C 0 dL_law_1514 rfl ?_
  refine z_iload_n C 3 dL_law_1515 rfl ?_
  refine z_iconst C (v := 1) dL_law_1516 rfl ?_
  refine z_iadd C dL_law_1517 ?_
  refine z_top (nI (i + 1)) (nI_add i 1) ?_
  refine z_tald C (i + 1) (fun H h => h.1.2) rfl (by omega) (by omega) rfl dL_law_1518 ?_
  refine z_callV1 C (CXv (c_X6_afternoon l E F h.1 (sc (i + 1)))) okC_x rfl rfl q_L_175 ⟨by omega, by omega⟩ (Nat.le_of_ble_eq_true rfl) dL_law_1519 (fun v X hp => ?_)
  obtain ⟨F2, M1⟩ := X
  obtain ⟨hx, em⟩ := hp
  have em : M = M1 := em.symm
  subst em
  obtain ⟨hv, -⟩ := id hx
  subst hv
  refine z_aload_n C 2 dL_law_1522 rfl ?_
  refine z_aload_n C 0 dL_law_1523 rfl ?_
  refine z_iload_n C 3 dL_law_1524 rfl ?_
  refine z_iconst C (v := 1) dL_law_1525 rfl ?_
  refine z_iadd C dL_law_1526 ?_
  refine z_top (nI (i + 1)) (nI_add i 1) ?_
  refine z_tald C (i + 1) (fun H h => h.1.2) rfl (by omega) (by omega) rfl dL_law_1527 ?_
  refine z_callV1 C (CYv (c_X7_afternoon l (E2 E) M h.z h.2.2.1 (by omega) (sc (i + 1)))) okC_m rfl rfl q_L_178 ⟨by omega, by omega⟩ (Nat.le_of_ble_eq_true rfl) dL_law_1528 (fun v X hp => ?_)
  obtain ⟨F3, M2⟩ := X
  obtain ⟨hm, em⟩ := hp
  have em : F2 = F3 := em.symm
  subst em
  obtain ⟨hv, -⟩ := id hm
  subst hv
  obtain ⟨eq, hR⟩ := st_afternoon h hN hx hm
  refine z_icmp_eq C 1674 dL_law_1531 (by decide) (fun hh => ?_) (fun hh => ?_)
  · exact next _ _ (hR.up (by omega))
  · exact absurd (Value.int.inj (Option.some.inj eq)) hh
set_option maxRecDepth 100000 in
set_option maxHeartbeats 4000000 in
theorem lw_39 {l : Launch} {E : zE} {K : zK} {R : Room} {s : State} {mL : Nat} {q0 n : Nat} {sc : Nat → Int32} {N : Nat} {F : zF} {M : zM} (C : zC (cell := cellC E) l E (adrC E) okC (xeu E) (evC q0 n sc E) (AC E) K cL_law RL R s mL) (hRm : 20 ≤ R.frames ∧ 2000 ≤ R.locals) (hn : n ≤ 3072) (h : RR N F M) (hN : N ≤ 98000000) {i : Nat} (hi : i + 6 ≤ n) (next : ∀ F2 M2, RR (N + 1500) F2 M2 → Z K (zPP E (adrC E) (cellC E) okC (evC q0 n sc E) (F2, M2) s) 1674 [(0, .ref q0), (1, .ref (adrC E (0, 0, 0))), (2, .ref (adrC E (100, 0, 0))), (3, .int (nI i))] []) : Z K (zPP E (adrC E) (cellC E) okC (evC q0 n sc E) (F, M) s) 1536 [(0, .ref q0), (1, .ref (adrC E (0, 0, 0))), (2, .ref (adrC E (100, 0, 0))), (3, .int (nI i))] [] := by
  obtain ⟨hf, hl⟩ := hRm
  refine z_aload_n C 1 dL_law_1536 rfl ?_
  refine z_aload_n C 0 dL_law_1537 rfl ?_
  refine z_iload_n C 3 dL_law_1538 rfl ?_
  refine z_iconst C (v := 1) dL_law_1539 rfl ?_
  refine z_iadd C dL_law_1540 ?_
  refine z_top (nI (i + 1)) (nI_add i 1) ?_
  refine z_tald C (i + 1) (fun H h => h.1.2) rfl (by omega) (by omega) rfl dL_law_1541 ?_
  refine z_callV1 C (CXv (c_X6_seed l E F h.1 (sc (i + 1)))) okC_x rfl rfl q_L_179 ⟨by omega, by omega⟩ (Nat.le_of_ble_eq_true rfl) dL_law_1542 (fun v X hp => ?_)
  obtain ⟨F2, M1⟩ := X
  obtain ⟨hx, em⟩ := hp
  have em : M = M1 := em.symm
  subst em
  obtain ⟨hv, -⟩ := id hx
  subst hv
  refine z_aload_n C 2 dL_law_1545 rfl ?_
  refine z_aload_n C 0 dL_law_1546 rfl ?_
  refine z_iload_n C 3 dL_law_1547 rfl ?_
  refine z_iconst C (v := 1) dL_law_1548 rfl ?_
  refine z_iadd C dL_law_1549 ?_
  refine z_top (nI (i + 1)) (nI_add i 1) ?_
  refine z_tald C (i + 1) (fun H h => h.1.2) rfl (by omega) (by omega) rfl dL_law_1550 ?_
  refine z_callV1 C (CYv (c_X7_seed l (E2 E) M (sc (i + 1)))) okC_m rfl rfl q_L_182 ⟨by omega, by omega⟩ (Nat.le_of_ble_eq_true rfl) dL_law_1551 (fun v X hp => ?_)
  obtain ⟨F3, M2⟩ := X
  obtain ⟨hm, em⟩ := hp
  have em : F2 = F3 := em.symm
  subst em
  obtain ⟨hv, -⟩ := id hm
  subst hv
  obtain ⟨eq, hR⟩ := st_seed h hN hx hm
  refine z_icmp_eq C 1674 dL_law_1554 (by decide) (fun hh => ?_) (fun hh => ?_)
  · exact next _ _ (hR.up (by omega))
  · exact absurd (Value.int.inj (Option.some.inj eq)) hh
set_option maxRecDepth 100000 in
set_option maxHeartbeats 4000000 in
theorem lw_40 {l : Launch} {E : zE} {K : zK} {R : Room} {s : State} {mL : Nat} {q0 n : Nat} {sc : Nat → Int32} {N : Nat} {F : zF} {M : zM} (C : zC (cell := cellC E) l E (adrC E) okC (xeu E) (evC q0 n sc E) (AC E) K cL_law RL R s mL) (hRm : 20 ≤ R.frames ∧ 2000 ≤ R.locals) (hn : n ≤ 3072) (h : RR N F M) (hN : N ≤ 98000000) {i : Nat} (hi : i + 6 ≤ n) (next : ∀ F2 M2, RR (N + 1500) F2 M2 → Z K (zPP E (adrC E) (cellC E) okC (evC q0 n sc E) (F2, M2) s) 1674 [(0, .ref q0), (1, .ref (adrC E (0, 0, 0))), (2, .ref (adrC E (100, 0, 0))), (3, .int (nI i))] []) : Z K (zPP E (adrC E) (cellC E) okC (evC q0 n sc E) (F, M) s) 1559 [(0, .ref q0), (1, .ref (adrC E (0, 0, 0))), (2, .ref (adrC E (100, 0, 0))), (3, .int (nI i))] [] := by
  obtain ⟨hf, hl⟩ := hRm
  refine z_aload_n C 1 dL_law_1559 rfl ?_
  refine z_aload_n C 0 dL_law_1560 rfl ?_
  refine z_iload_n C 3 dL_law_1561 rfl ?_
  refine z_iconst C (v := 1) dL_law_1562 rfl ?_
  refine z_iadd C dL_law_1563 ?_
  refine z_top (nI (i + 1)) (nI_add i 1) ?_
  refine z_tald C (i + 1) (fun H h => h.1.2) rfl (by omega) (by omega) rfl dL_law_1564 ?_
  refine z_aload_n C 0 dL_law_1565 rfl ?_
  refine z_iload_n C 3 dL_law_1566 rfl ?_
  refine z_iconst C (v := 2) dL_law_1567 rfl ?_
  refine z_iadd C dL_law_1568 ?_
  refine z_top (nI (i + 2)) (nI_add i 2) ?_
  refine z_tald C (i + 2) (fun H h => h.1.2) rfl (by omega) (by omega) rfl dL_law_1569 ?_
  refine z_aload_n C 0 dL_law_1570 rfl ?_
  refine z_iload_n C 3 dL_law_1571 rfl ?_
  refine z_iconst C (v := 3) dL_law_1572 rfl ?_
  refine z_iadd C dL_law_1573 ?_
  refine z_top (nI (i + 3)) (nI_add i 3) ?_
  refine z_tald C (i + 3) (fun H h => h.1.2) rfl (by omega) (by omega) rfl dL_law_1574 ?_
  refine z_callV3 C (CXv (c_X6_act l E F h.1 (RR.kd h) (sc (i + 1)) (sc (i + 2)) (sc (i + 3)))) okC_x rfl rfl q_L_183 ⟨by omega, by omega⟩ (Nat.le_of_ble_eq_true rfl) dL_law_1575 (fun v X hp => ?_)
  obtain ⟨F2, M1⟩ := X
  obtain ⟨hx, em⟩ := hp
  have em : M = M1 := em.symm
  subst em
  obtain ⟨hv, -⟩ := id hx
  subst hv
  refine z_aload_n C 2 dL_law_1578 rfl ?_
  refine z_aload_n C 0 dL_law_1579 rfl ?_
  refine z_iload_n C 3 dL_law_1580 rfl ?_
  refine z_iconst C (v := 1) dL_law_1581 rfl ?_
  refine z_iadd C dL_law_1582 ?_
  refine z_top (nI (i + 1)) (nI_add i 1) ?_
  refine z_tald C (i + 1) (fun H h => h.1.2) rfl (by omega) (by omega) rfl dL_law_1583 ?_
  refine z_aload_n C 0 dL_law_1584 rfl ?_
  refine z_iload_n C 3 dL_law_1585 rfl ?_
  refine z_iconst C (v := 2) dL_law_1586 rfl ?_
  refine z_iadd C dL_law_1587 ?_
  refine z_top (nI (i + 2)) (nI_add i 2) ?_
  refine z_tald C (i + 2) (fun H h => h.1.2) rfl (by omega) (by omega) rfl dL_law_1588 ?_
  refine z_aload_n C 0 dL_law_1589 rfl ?_
  refine z_iload_n C 3 dL_law_1590 rfl ?_
  refine z_iconst C (v := 3) dL_law_1591 rfl ?_
  refine z_iadd C dL_law_1592 ?_
  refine z_top (nI (i + 3)) (nI_add i 3) ?_
  refine z_tald C (i + 3) (fun H h => h.1.2) rfl (by omega) (by omega) rfl dL_law_1593 ?_
  refine z_callV3 C (CYv (c_X7_act l (E2 E) M h.z h.2.2.1 (by omega) (sc (i + 1)) (sc (i + 2)) (sc (i + 3)))) okC_m rfl rfl q_L_186 ⟨by omega, by omega⟩ (Nat.le_of_ble_eq_true rfl) dL_law_1594 (fun v X hp => ?_)
  obtain ⟨F3, M2⟩ := X
  obtain ⟨hm, em⟩ := hp
  have em : F2 = F3 := em.symm
  subst em
  obtain ⟨hv, -⟩ := id hm
  subst hv
  obtain ⟨eq, hR⟩ := st_act h hN hx hm
  refine z_icmp_eq C 1674 dL_law_1597 (by decide) (fun hh => ?_) (fun hh => ?_)
  · exact next _ _ (hR.up (by omega))
  · exact absurd (Value.int.inj (Option.some.inj eq)) hh
set_option maxRecDepth 100000 in
set_option maxHeartbeats 4000000 in
theorem lw_41 {l : Launch} {E : zE} {K : zK} {R : Room} {s : State} {mL : Nat} {q0 n : Nat} {sc : Nat → Int32} {N : Nat} {F : zF} {M : zM} (C : zC (cell := cellC E) l E (adrC E) okC (xeu E) (evC q0 n sc E) (AC E) K cL_law RL R s mL) (hRm : 20 ≤ R.frames ∧ 2000 ≤ R.locals) (hn : n ≤ 3072) (h : RR N F M) (hN : N ≤ 98000000) {i : Nat} (hi : i + 6 ≤ n) (next : ∀ F2 M2, RR (N + 1500) F2 M2 → Z K (zPP E (adrC E) (cellC E) okC (evC q0 n sc E) (F2, M2) s) 1674 [(0, .ref q0), (1, .ref (adrC E (0, 0, 0))), (2, .ref (adrC E (100, 0, 0))), (3, .int (nI i))] []) : Z K (zPP E (adrC E) (cellC E) okC (evC q0 n sc E) (F, M) s) 1602 [(0, .ref q0), (1, .ref (adrC E (0, 0, 0))), (2, .ref (adrC E (100, 0, 0))), (3, .int (nI i))] [] := by
  obtain ⟨hf, hl⟩ := hRm
  refine z_aload_n C 1 dL_law_1602 rfl ?_
  refine z_aload_n C 0 dL_law_1603 rfl ?_
  refine z_iload_n C 3 dL_law_1604 rfl ?_
  refine z_iconst C (v := 1) dL_law_1605 rfl ?_
  refine z_iadd C dL_law_1606 ?_
  refine z_top (nI (i + 1)) (nI_add i 1) ?_
  refine z_tald C (i + 1) (fun H h => h.1.2) rfl (by omega) (by omega) rfl dL_law_1607 ?_
  refine z_callV1 C (CXv (c_X6_trace l E F (sc (i + 1)))) okC_x rfl rfl q_L_187 ⟨by omega, by omega⟩ (Nat.le_of_ble_eq_true rfl) dL_law_1608 (fun v X hp => ?_)
  obtain ⟨F2, M1⟩ := X
  obtain ⟨hx, em⟩ := hp
  have em : M = M1 := em.symm
  subst em
  obtain ⟨hv, -⟩ := id hx
  subst hv
  refine z_aload_n C 2 dL_law_1611 rfl ?_
  refine z_aload_n C 0 dL_law_1612 rfl ?_
  refine z_iload_n C 3 dL_law_1613 rfl ?_
  refine z_iconst C (v := 1) dL_law_1614 rfl ?_
  refine z_iadd C dL_law_1615 ?_
  refine z_top (nI (i + 1)) (nI_add i 1) ?_
  refine z_tald C (i + 1) (fun H h => h.1.2) rfl (by omega) (by omega) rfl dL_law_1616 ?_
  refine z_callV1 C (CYv (c_X7_trace l (E2 E) M (sc (i + 1)))) okC_m rfl rfl q_L_190 ⟨by omega, by omega⟩ (Nat.le_of_ble_eq_true rfl) dL_law_1617 (fun v X hp => ?_)
  obtain ⟨F3, M2⟩ := X
  obtain ⟨hm, em⟩ := hp
  have em : F2 = F3 := em.symm
  subst em
  obtain ⟨hv, -⟩ := id hm
  subst hv
  obtain ⟨eq, hR⟩ := st_trace h hN hx hm
  refine z_icmp_eq C 1674 dL_law_1620 (by decide) (fun hh => ?_) (fun hh => ?_)
  · exact next _ _ (hR.up (by omega))
  · exact absurd (Value.int.inj (Option.some.inj eq)) hh
set_option maxRecDepth 100000 in
set_option maxHeartbeats 4000000 in
theorem lw_42 {l : Launch} {E : zE} {K : zK} {R : Room} {s : State} {mL : Nat} {q0 n : Nat} {sc : Nat → Int32} {N : Nat} {F : zF} {M : zM} (C : zC (cell := cellC E) l E (adrC E) okC (xeu E) (evC q0 n sc E) (AC E) K cL_law RL R s mL) (hRm : 20 ≤ R.frames ∧ 2000 ≤ R.locals) (hn : n ≤ 3072) (h : RR N F M) (hN : N ≤ 98000000) {i : Nat} (hi : i + 6 ≤ n) (next : ∀ F2 M2, RR (N + 1500) F2 M2 → Z K (zPP E (adrC E) (cellC E) okC (evC q0 n sc E) (F2, M2) s) 1674 [(0, .ref q0), (1, .ref (adrC E (0, 0, 0))), (2, .ref (adrC E (100, 0, 0))), (3, .int (nI i))] []) : Z K (zPP E (adrC E) (cellC E) okC (evC q0 n sc E) (F, M) s) 1625 [(0, .ref q0), (1, .ref (adrC E (0, 0, 0))), (2, .ref (adrC E (100, 0, 0))), (3, .int (nI i))] [] := by
  obtain ⟨hf, hl⟩ := hRm
  refine z_aload_n C 1 dL_law_1625 rfl ?_
  refine z_callV0 C (CXv (c_X6_image l E F h.1)) okC_x rfl rfl q_L_191 ⟨by omega, by omega⟩ (Nat.le_of_ble_eq_true rfl) dL_law_1626 (fun v X hp => ?_)
  obtain ⟨F2, M1⟩ := X
  obtain ⟨hx, em⟩ := hp
  have em : M = M1 := em.symm
  subst em
  obtain ⟨hv, -⟩ := id hx
  subst hv
  refine z_aload_n C 2 dL_law_1629 rfl ?_
  refine z_callV0 C (CYv (c_X7_image l (E2 E) M)) okC_m rfl rfl q_L_194 ⟨by omega, by omega⟩ (Nat.le_of_ble_eq_true rfl) dL_law_1630 (fun v X hp => ?_)
  obtain ⟨F3, M2⟩ := X
  obtain ⟨hm, em⟩ := hp
  have em : F2 = F3 := em.symm
  subst em
  obtain ⟨hv, -⟩ := id hm
  subst hv
  obtain ⟨eq, hR⟩ := st_image h hN hx hm
  refine z_icmp_eq C 1674 dL_law_1633 (by decide) (fun hh => ?_) (fun hh => ?_)
  · exact next _ _ (hR.up (by omega))
  · exact absurd (Value.int.inj (Option.some.inj eq)) hh
set_option maxRecDepth 100000 in
set_option maxHeartbeats 4000000 in
theorem lw_43 {l : Launch} {E : zE} {K : zK} {R : Room} {s : State} {mL : Nat} {q0 n : Nat} {sc : Nat → Int32} {N : Nat} {F : zF} {M : zM} (C : zC (cell := cellC E) l E (adrC E) okC (xeu E) (evC q0 n sc E) (AC E) K cL_law RL R s mL) (hRm : 20 ≤ R.frames ∧ 2000 ≤ R.locals) (hn : n ≤ 3072) (h : RR N F M) (hN : N ≤ 98000000) {i : Nat} (hi : i + 6 ≤ n) (next : ∀ F2 M2, RR (N + 1500) F2 M2 → Z K (zPP E (adrC E) (cellC E) okC (evC q0 n sc E) (F2, M2) s) 1674 [(0, .ref q0), (1, .ref (adrC E (0, 0, 0))), (2, .ref (adrC E (100, 0, 0))), (3, .int (nI i))] []) : Z K (zPP E (adrC E) (cellC E) okC (evC q0 n sc E) (F, M) s) 1638 [(0, .ref q0), (1, .ref (adrC E (0, 0, 0))), (2, .ref (adrC E (100, 0, 0))), (3, .int (nI i))] [] := by
  obtain ⟨hf, hl⟩ := hRm
  refine z_aload_n C 1 dL_law_1638 rfl ?_
  refine z_callV0 C (CXv (c_X6_restore l E F h.1 (RR.kz h))) okC_x rfl rfl q_L_195 ⟨by omega, by omega⟩ (Nat.le_of_ble_eq_true rfl) dL_law_1639 (fun v X hp => ?_)
  obtain ⟨F2, M1⟩ := X
  obtain ⟨hx, em⟩ := hp
  have em : M = M1 := em.symm
  subst em
  obtain ⟨hv, -⟩ := id hx
  subst hv
  refine z_aload_n C 2 dL_law_1642 rfl ?_
  refine z_callV0 C (CYv (c_X7_restore l (E2 E) M)) okC_m rfl rfl q_L_198 ⟨by omega, by omega⟩ (Nat.le_of_ble_eq_true rfl) dL_law_1643 (fun v X hp => ?_)
  obtain ⟨F3, M2⟩ := X
  obtain ⟨hm, em⟩ := hp
  have em : F2 = F3 := em.symm
  subst em
  obtain ⟨hv, -⟩ := id hm
  subst hv
  obtain ⟨eq, hR⟩ := st_restore h hN hx hm
  refine z_icmp_eq C 1674 dL_law_1646 (by decide) (fun hh => ?_) (fun hh => ?_)
  · exact next _ _ (hR.up (by omega))
  · exact absurd (Value.int.inj (Option.some.inj eq)) hh
set_option maxRecDepth 100000 in
set_option maxHeartbeats 4000000 in
theorem lw_44 {l : Launch} {E : zE} {K : zK} {R : Room} {s : State} {mL : Nat} {q0 n : Nat} {sc : Nat → Int32} {N : Nat} {F : zF} {M : zM} (C : zC (cell := cellC E) l E (adrC E) okC (xeu E) (evC q0 n sc E) (AC E) K cL_law RL R s mL) (hRm : 20 ≤ R.frames ∧ 2000 ≤ R.locals) (hn : n ≤ 3072) (h : RR N F M) (hN : N ≤ 98000000) {i : Nat} (hi : i + 6 ≤ n) (next : ∀ F2 M2, RR (N + 1500) F2 M2 → Z K (zPP E (adrC E) (cellC E) okC (evC q0 n sc E) (F2, M2) s) 1674 [(0, .ref q0), (1, .ref (adrC E (0, 0, 0))), (2, .ref (adrC E (100, 0, 0))), (3, .int (nI i))] []) : Z K (zPP E (adrC E) (cellC E) okC (evC q0 n sc E) (F, M) s) 1651 [(0, .ref q0), (1, .ref (adrC E (0, 0, 0))), (2, .ref (adrC E (100, 0, 0))), (3, .int (nI i))] [] := by
  obtain ⟨hf, hl⟩ := hRm
  refine z_aload_n C 1 dL_law_1651 rfl ?_
  refine z_aload_n C 0 dL_law_1652 rfl ?_
  refine z_iload_n C 3 dL_law_1653 rfl ?_
  refine z_iconst C (v := 1) dL_law_1654 rfl ?_
  refine z_iadd C dL_law_1655 ?_
  refine z_top (nI (i + 1)) (nI_add i 1) ?_
  refine z_tald C (i + 1) (fun H h => h.1.2) rfl (by omega) (by omega) rfl dL_law_1656 ?_
  refine z_callV1 C (CXv (c_X6_status l E F (sc (i + 1)))) okC_x rfl rfl q_L_199 ⟨by omega, by omega⟩ (Nat.le_of_ble_eq_true rfl) dL_law_1657 (fun v X hp => ?_)
  obtain ⟨F2, M1⟩ := X
  obtain ⟨hx, em⟩ := hp
  have em : M = M1 := em.symm
  subst em
  obtain ⟨hv, -⟩ := id hx
  subst hv
  refine z_aload_n C 2 dL_law_1660 rfl ?_
  refine z_aload_n C 0 dL_law_1661 rfl ?_
  refine z_iload_n C 3 dL_law_1662 rfl ?_
  refine z_iconst C (v := 1) dL_law_1663 rfl ?_
  refine z_iadd C dL_law_1664 ?_
  refine z_top (nI (i + 1)) (nI_add i 1) ?_
  refine z_tald C (i + 1) (fun H h => h.1.2) rfl (by omega) (by omega) rfl dL_law_1665 ?_
  refine z_callV1 C (CYv (c_X7_status l (E2 E) M (sc (i + 1)))) okC_m rfl rfl q_L_202 ⟨by omega, by omega⟩ (Nat.le_of_ble_eq_true rfl) dL_law_1666 (fun v X hp => ?_)
  obtain ⟨F3, M2⟩ := X
  obtain ⟨hm, em⟩ := hp
  have em : F2 = F3 := em.symm
  subst em
  obtain ⟨hv, -⟩ := id hm
  subst hv
  obtain ⟨eq, hR⟩ := st_status h hN hx hm
  refine z_icmp_eq C 1674 dL_law_1669 (by decide) (fun hh => ?_) (fun hh => ?_)
  · exact next _ _ (hR.up (by omega))
  · exact absurd (Value.int.inj (Option.some.inj eq)) hh
