theorem law_ix {j n : Nat} (hn : n ≤ 3072) (hj : j ≤ n) (h : ¬ nI n - nI 6 < nI j) : j + 6 ≤ n := by
  by_cases h6 : 6 ≤ n
  · rw [nI_subN h6] at h
    have := nq_nlt (by omega) (by omega) h
    omega
  · refine absurd ?_ h
    have e : (nI n - nI 6) < 0 := (by decide +kernel : ∀ n, n < 6 → (nI n - nI 6) < 0) n (by omega)
    have e2 := Int32.lt_iff_toInt_lt.mp e
    refine Int32.lt_iff_toInt_lt.mpr ?_
    rw [nI_toInt (n := j) (by omega)]
    have z : (0 : Int32).toInt = 0 := by decide
    omega
theorem and_63 (y : Int32) : ∃ k, k ≤ 63 ∧ y &&& nI 63 = nI k := by
  refine ⟨(y &&& nI 63).toBitVec.toNat, ?_, ?_⟩
  · rw [Int32.toBitVec_and, BitVec.toNat_and]
    exact Nat.le_trans Nat.and_le_right (by decide +kernel)
  · apply Int32.toBitVec_inj.mp
    show (y &&& nI 63).toBitVec = BitVec.ofNat 32 (y &&& nI 63).toBitVec.toNat
    rw [BitVec.ofNat_toNat, BitVec.setWidth_eq]
set_option maxHeartbeats 400000 in
set_option maxRecDepth 100000 in
theorem LC_feed {l : Launch} {X : pX} {t g j : Nat} {I : pHI} {J : pHJ} {Q : pQ} (hj : j + 6 ≤ X.1) (hX : X.1 ≤ 3072) (hR : Rel t g I) (hk : ∀ I1 J1 t1 g1, Rel t1 g1 I1 → pE l X mL_law 80 pK 1493 [some (.ref 2000000), some (.ref 0), some (.ref 67), some (.int (nI j))] [] pK I1 J1 (pR t1 g1) Q) : pE l X mL_law 80 pK 244 [some (.ref 2000000), some (.ref 0), some (.ref 67), some (.int (nI j))] [] pK I J (pR t g) Q := by
  have hin : ∀ k, k < X.1 → vp_in (nI k) X.1 := fun k hk => vp_in_nI hk (by omega)
  refine pE_aload_n dL_law_244 rfl rfl ?_
  refine pE_aload_n dL_law_245 rfl rfl ?_
  refine pE_iload_n dL_law_246 rfl rfl ?_
  refine pE_iconst (v := nI 1) dL_law_247 rfl ?_
  refine pE_iaddN dL_law_248 ?_
  refine pE_sload dL_law_249 (by exact hin _ (by omega)) ?_
  refine pE_aload_n dL_law_250 rfl rfl ?_
  refine pE_iload_n dL_law_251 rfl rfl ?_
  refine pE_iconst (v := nI 2) dL_law_252 rfl ?_
  refine pE_iaddN dL_law_253 ?_
  refine pE_sload dL_law_254 (by exact hin _ (by omega)) ?_
  refine pE_aload_n dL_law_255 rfl rfl ?_
  refine pE_iload_n dL_law_256 rfl rfl ?_
  refine pE_iconst (v := nI 3) dL_law_257 rfl ?_
  refine pE_iaddN dL_law_258 ?_
  refine pE_sload dL_law_259 (by exact hin _ (by omega)) ?_
  refine pE_aload_n dL_law_260 rfl rfl ?_
  refine pE_iload_n dL_law_261 rfl rfl ?_
  refine pE_iconst (v := nI 4) dL_law_262 rfl ?_
  refine pE_iaddN dL_law_263 ?_
  refine pE_sload dL_law_264 (by exact hin _ (by omega)) ?_
  refine pE_aload_n dL_law_265 rfl rfl ?_
  refine pE_iload_n dL_law_266 rfl rfl ?_
  refine pE_iconst (v := nI 5) dL_law_267 rfl ?_
  refine pE_iaddN dL_law_268 ?_
  refine pE_sload dL_law_269 (by exact hin _ (by omega)) ?_
  refine pE_callV (d' := 1) (as := [_, _, _, _, _]) dL_law_270 lkL_13 (cwX11_feed _ _) ivX11_feed ⟨_, rfl, rfl⟩ (by first | assumption | rfl) rfl rfl (Nat.le_of_ble_eq_true rfl) (by decide) pKK ?_
  refine Z_feed hR (fun v I1 J1 t1 g1 z => ?_)
  refine pE_aload_n dL_law_273 rfl rfl ?_
  refine pE_aload_n dL_law_274 rfl rfl ?_
  refine pE_iload_n dL_law_275 rfl rfl ?_
  refine pE_iconst (v := nI 1) dL_law_276 rfl ?_
  refine pE_iaddN dL_law_277 ?_
  refine pE_sload dL_law_278 (by exact hin _ (by omega)) ?_
  refine pE_aload_n dL_law_279 rfl rfl ?_
  refine pE_iload_n dL_law_280 rfl rfl ?_
  refine pE_iconst (v := nI 2) dL_law_281 rfl ?_
  refine pE_iaddN dL_law_282 ?_
  refine pE_sload dL_law_283 (by exact hin _ (by omega)) ?_
  refine pE_aload_n dL_law_284 rfl rfl ?_
  refine pE_iload_n dL_law_285 rfl rfl ?_
  refine pE_iconst (v := nI 3) dL_law_286 rfl ?_
  refine pE_iaddN dL_law_287 ?_
  refine pE_sload dL_law_288 (by exact hin _ (by omega)) ?_
  refine pE_aload_n dL_law_289 rfl rfl ?_
  refine pE_iload_n dL_law_290 rfl rfl ?_
  refine pE_iconst (v := nI 4) dL_law_291 rfl ?_
  refine pE_iaddN dL_law_292 ?_
  refine pE_sload dL_law_293 (by exact hin _ (by omega)) ?_
  refine pE_aload_n dL_law_294 rfl rfl ?_
  refine pE_iload_n dL_law_295 rfl rfl ?_
  refine pE_iconst (v := nI 5) dL_law_296 rfl ?_
  refine pE_iaddN dL_law_297 ?_
  refine pE_sload dL_law_298 (by exact hin _ (by omega)) ?_
  refine pE_callV (d' := 1) (as := [_, _, _, _, _]) dL_law_299 lkL_17 (cwX12_feed _ _) ivX12_feed ⟨_, rfl, rfl⟩ (by first | assumption | rfl) rfl rfl (Nat.le_of_ble_eq_true rfl) (by decide) pKK ?_
  refine z _ (fun I2 J2 hR2 => ?_)
  refine pE_icmp_eq (tgt := 1493) dL_law_302 (by decide) (fun h302 => ?_) (fun h302 => ?_)
  · exact hk _ _ _ _ hR2
  · exact absurd rfl h302
set_option maxHeartbeats 400000 in
set_option maxRecDepth 100000 in
theorem LC_end {l : Launch} {X : pX} {t g j : Nat} {I : pHI} {J : pHJ} {Q : pQ} (hj : j + 6 ≤ X.1) (hX : X.1 ≤ 3072) (hR : Rel t g I) (hk : ∀ I1 J1 t1 g1, Rel t1 g1 I1 → pE l X mL_law 80 pK 1493 [some (.ref 2000000), some (.ref 0), some (.ref 67), some (.int (nI j))] [] pK I1 J1 (pR t1 g1) Q) : pE l X mL_law 80 pK 307 [some (.ref 2000000), some (.ref 0), some (.ref 67), some (.int (nI j))] [] pK I J (pR t g) Q := by
  have hin : ∀ k, k < X.1 → vp_in (nI k) X.1 := fun k hk => vp_in_nI hk (by omega)
  refine pE_aload_n dL_law_307 rfl rfl ?_
  refine pE_aload_n dL_law_308 rfl rfl ?_
  refine pE_iload_n dL_law_309 rfl rfl ?_
  refine pE_iconst (v := nI 1) dL_law_310 rfl ?_
  refine pE_iaddN dL_law_311 ?_
  refine pE_sload dL_law_312 (by exact hin _ (by omega)) ?_
  refine pE_callV (d' := 0) (as := [_]) dL_law_313 lkL_18 (cwX11_end _ _) ivX11_end ⟨_, rfl, rfl⟩ (by first | assumption | rfl) rfl rfl (Nat.le_of_ble_eq_true rfl) (by decide) pKK ?_
  refine Z_end hR (fun v I1 J1 t1 g1 z => ?_)
  refine pE_aload_n dL_law_316 rfl rfl ?_
  refine pE_aload_n dL_law_317 rfl rfl ?_
  refine pE_iload_n dL_law_318 rfl rfl ?_
  refine pE_iconst (v := nI 1) dL_law_319 rfl ?_
  refine pE_iaddN dL_law_320 ?_
  refine pE_sload dL_law_321 (by exact hin _ (by omega)) ?_
  refine pE_callV (d' := 0) (as := [_]) dL_law_322 lkL_22 (cwX12_end _ _) ivX12_end ⟨_, rfl, rfl⟩ (by first | assumption | rfl) rfl rfl (Nat.le_of_ble_eq_true rfl) (by decide) pKK ?_
  refine z _ (fun I2 J2 hR2 => ?_)
  refine pE_icmp_eq (tgt := 1493) dL_law_325 (by decide) (fun h325 => ?_) (fun h325 => ?_)
  · exact hk _ _ _ _ hR2
  · exact absurd rfl h325
set_option maxHeartbeats 400000 in
set_option maxRecDepth 100000 in
theorem LC_house {l : Launch} {X : pX} {t g j : Nat} {I : pHI} {J : pHJ} {Q : pQ} (hj : j + 6 ≤ X.1) (hX : X.1 ≤ 3072) (hR : Rel t g I) (hk : ∀ I1 J1 t1 g1, Rel t1 g1 I1 → pE l X mL_law 80 pK 1493 [some (.ref 2000000), some (.ref 0), some (.ref 67), some (.int (nI j))] [] pK I1 J1 (pR t1 g1) Q) : pE l X mL_law 80 pK 330 [some (.ref 2000000), some (.ref 0), some (.ref 67), some (.int (nI j))] [] pK I J (pR t g) Q := by
  have hin : ∀ k, k < X.1 → vp_in (nI k) X.1 := fun k hk => vp_in_nI hk (by omega)
  refine pE_aload_n dL_law_330 rfl rfl ?_
  refine pE_callV (d' := 74) (as := []) dL_law_331 lkL_23 (cwX11_house _ _) ivX11_house ⟨_, rfl, rfl⟩ (by first | assumption | rfl) rfl rfl (Nat.le_of_ble_eq_true rfl) (by decide) pKK ?_
  refine Z_house hR (fun v I1 J1 t1 g1 z => ?_)
  refine pE_aload_n dL_law_334 rfl rfl ?_
  refine pE_callV (d' := 9) (as := []) dL_law_335 lkL_27 (cwX12_house _ _) ivX12_house ⟨_, rfl, rfl⟩ (by first | assumption | rfl) rfl rfl (Nat.le_of_ble_eq_true rfl) (by decide) pKK ?_
  refine z _ (fun I2 J2 hR2 => ?_)
  refine pE_icmp_eq (tgt := 1493) dL_law_338 (by decide) (fun h338 => ?_) (fun h338 => ?_)
  · exact hk _ _ _ _ hR2
  · exact absurd rfl h338
set_option maxHeartbeats 400000 in
set_option maxRecDepth 100000 in
theorem LC_fault {l : Launch} {X : pX} {t g j : Nat} {I : pHI} {J : pHJ} {Q : pQ} (hj : j + 6 ≤ X.1) (hX : X.1 ≤ 3072) (hR : Rel t g I) (hk : ∀ I1 J1 t1 g1, Rel t1 g1 I1 → pE l X mL_law 80 pK 1493 [some (.ref 2000000), some (.ref 0), some (.ref 67), some (.int (nI j))] [] pK I1 J1 (pR t1 g1) Q) : pE l X mL_law 80 pK 343 [some (.ref 2000000), some (.ref 0), some (.ref 67), some (.int (nI j))] [] pK I J (pR t g) Q := by
  have hin : ∀ k, k < X.1 → vp_in (nI k) X.1 := fun k hk => vp_in_nI hk (by omega)
  refine pE_aload_n dL_law_343 rfl rfl ?_
  refine pE_aload_n dL_law_344 rfl rfl ?_
  refine pE_iload_n dL_law_345 rfl rfl ?_
  refine pE_iconst (v := nI 1) dL_law_346 rfl ?_
  refine pE_iaddN dL_law_347 ?_
  refine pE_sload dL_law_348 (by exact hin _ (by omega)) ?_
  refine pE_callV (d' := 0) (as := [_]) dL_law_349 lkL_28 (cwX11_fault _ _) ivX11_fault ⟨_, rfl, rfl⟩ (by first | assumption | rfl) rfl rfl (Nat.le_of_ble_eq_true rfl) (by decide) pKK ?_
  refine Z_fault hR (fun v I1 J1 t1 g1 z => ?_)
  refine pE_aload_n dL_law_352 rfl rfl ?_
  refine pE_aload_n dL_law_353 rfl rfl ?_
  refine pE_iload_n dL_law_354 rfl rfl ?_
  refine pE_iconst (v := nI 1) dL_law_355 rfl ?_
  refine pE_iaddN dL_law_356 ?_
  refine pE_sload dL_law_357 (by exact hin _ (by omega)) ?_
  refine pE_callV (d' := 0) (as := [_]) dL_law_358 lkL_31 (cwX12_fault _ _) ivX12_fault ⟨_, rfl, rfl⟩ (by first | assumption | rfl) rfl rfl (Nat.le_of_ble_eq_true rfl) (by decide) pKK ?_
  refine z _ (fun I2 J2 hR2 => ?_)
  refine pE_icmp_eq (tgt := 1493) dL_law_361 (by decide) (fun h361 => ?_) (fun h361 => ?_)
  · exact hk _ _ _ _ hR2
  · exact absurd rfl h361
set_option maxHeartbeats 400000 in
set_option maxRecDepth 100000 in
theorem LC_tenant {l : Launch} {X : pX} {t g j : Nat} {I : pHI} {J : pHJ} {Q : pQ} (hj : j + 6 ≤ X.1) (hX : X.1 ≤ 3072) (hR : Rel t g I) (hk : ∀ I1 J1 t1 g1, Rel t1 g1 I1 → pE l X mL_law 80 pK 1493 [some (.ref 2000000), some (.ref 0), some (.ref 67), some (.int (nI j))] [] pK I1 J1 (pR t1 g1) Q) : pE l X mL_law 80 pK 366 [some (.ref 2000000), some (.ref 0), some (.ref 67), some (.int (nI j))] [] pK I J (pR t g) Q := by
  have hin : ∀ k, k < X.1 → vp_in (nI k) X.1 := fun k hk => vp_in_nI hk (by omega)
  refine pE_aload_n dL_law_366 rfl rfl ?_
  refine pE_aload_n dL_law_367 rfl rfl ?_
  refine pE_iload_n dL_law_368 rfl rfl ?_
  refine pE_iconst (v := nI 1) dL_law_369 rfl ?_
  refine pE_iaddN dL_law_370 ?_
  refine pE_sload dL_law_371 (by exact hin _ (by omega)) ?_
  refine pE_aload_n dL_law_372 rfl rfl ?_
  refine pE_iload_n dL_law_373 rfl rfl ?_
  refine pE_iconst (v := nI 2) dL_law_374 rfl ?_
  refine pE_iaddN dL_law_375 ?_
  refine pE_sload dL_law_376 (by exact hin _ (by omega)) ?_
  refine pE_callV (d' := 2) (as := [_, _]) dL_law_377 lkL_32 (cwX11_tenant _ _) ivX11_tenant ⟨_, rfl, rfl⟩ (by first | assumption | rfl) rfl rfl (Nat.le_of_ble_eq_true rfl) (by decide) pKK ?_
  refine Z_tenant hR (fun v I1 J1 t1 g1 z => ?_)
  refine pE_aload_n dL_law_380 rfl rfl ?_
  refine pE_aload_n dL_law_381 rfl rfl ?_
  refine pE_iload_n dL_law_382 rfl rfl ?_
  refine pE_iconst (v := nI 1) dL_law_383 rfl ?_
  refine pE_iaddN dL_law_384 ?_
  refine pE_sload dL_law_385 (by exact hin _ (by omega)) ?_
  refine pE_aload_n dL_law_386 rfl rfl ?_
  refine pE_iload_n dL_law_387 rfl rfl ?_
  refine pE_iconst (v := nI 2) dL_law_388 rfl ?_
  refine pE_iaddN dL_law_389 ?_
  refine pE_sload dL_law_390 (by exact hin _ (by omega)) ?_
  refine pE_callV (d' := 2) (as := [_, _]) dL_law_391 lkL_36 (cwX12_tenant _ _) ivX12_tenant ⟨_, rfl, rfl⟩ (by first | assumption | rfl) rfl rfl (Nat.le_of_ble_eq_true rfl) (by decide) pKK ?_
  refine z _ (fun I2 J2 hR2 => ?_)
  refine pE_icmp_eq (tgt := 1493) dL_law_394 (by decide) (fun h394 => ?_) (fun h394 => ?_)
  · exact hk _ _ _ _ hR2
  · exact absurd rfl h394
set_option maxHeartbeats 400000 in
set_option maxRecDepth 100000 in
theorem LC_worth {l : Launch} {X : pX} {t g j : Nat} {I : pHI} {J : pHJ} {Q : pQ} (hj : j + 6 ≤ X.1) (hX : X.1 ≤ 3072) (hR : Rel t g I) (hk : ∀ I1 J1 t1 g1, Rel t1 g1 I1 → pE l X mL_law 80 pK 1493 [some (.ref 2000000), some (.ref 0), some (.ref 67), some (.int (nI j))] [] pK I1 J1 (pR t1 g1) Q) : pE l X mL_law 80 pK 399 [some (.ref 2000000), some (.ref 0), some (.ref 67), some (.int (nI j))] [] pK I J (pR t g) Q := by
  have hin : ∀ k, k < X.1 → vp_in (nI k) X.1 := fun k hk => vp_in_nI hk (by omega)
  refine pE_aload_n dL_law_399 rfl rfl ?_
  refine pE_aload_n dL_law_400 rfl rfl ?_
  refine pE_iload_n dL_law_401 rfl rfl ?_
  refine pE_iconst (v := nI 1) dL_law_402 rfl ?_
  refine pE_iaddN dL_law_403 ?_
  refine pE_sload dL_law_404 (by exact hin _ (by omega)) ?_
  refine pE_aload_n dL_law_405 rfl rfl ?_
  refine pE_iload_n dL_law_406 rfl rfl ?_
  refine pE_iconst (v := nI 2) dL_law_407 rfl ?_
  refine pE_iaddN dL_law_408 ?_
  refine pE_sload dL_law_409 (by exact hin _ (by omega)) ?_
  refine pE_aload_n dL_law_410 rfl rfl ?_
  refine pE_iload_n dL_law_411 rfl rfl ?_
  refine pE_iconst (v := nI 3) dL_law_412 rfl ?_
  refine pE_iaddN dL_law_413 ?_
  refine pE_sload dL_law_414 (by exact hin _ (by omega)) ?_
  refine pE_aload_n dL_law_415 rfl rfl ?_
  refine pE_iload_n dL_law_416 rfl rfl ?_
  refine pE_iconst (v := nI 4) dL_law_417 rfl ?_
  refine pE_iaddN dL_law_418 ?_
  refine pE_sload dL_law_419 (by exact hin _ (by omega)) ?_
  refine pE_aload_n dL_law_420 rfl rfl ?_
  refine pE_iload_n dL_law_421 rfl rfl ?_
  refine pE_iconst (v := nI 5) dL_law_422 rfl ?_
  refine pE_iaddN dL_law_423 ?_
  refine pE_sload dL_law_424 (by exact hin _ (by omega)) ?_
  refine pE_callV (d' := 3) (as := [_, _, _, _, _]) dL_law_425 lkL_37 (cwX11_worth _ _) ivX11_worth ⟨_, rfl, rfl⟩ (by first | assumption | rfl) rfl rfl (Nat.le_of_ble_eq_true rfl) (by decide) pKK ?_
  refine Z_worth hR (fun v I1 J1 t1 g1 z => ?_)
  refine pE_aload_n dL_law_428 rfl rfl ?_
  refine pE_aload_n dL_law_429 rfl rfl ?_
  refine pE_iload_n dL_law_430 rfl rfl ?_
  refine pE_iconst (v := nI 1) dL_law_431 rfl ?_
  refine pE_iaddN dL_law_432 ?_
  refine pE_sload dL_law_433 (by exact hin _ (by omega)) ?_
  refine pE_aload_n dL_law_434 rfl rfl ?_
  refine pE_iload_n dL_law_435 rfl rfl ?_
  refine pE_iconst (v := nI 2) dL_law_436 rfl ?_
  refine pE_iaddN dL_law_437 ?_
  refine pE_sload dL_law_438 (by exact hin _ (by omega)) ?_
  refine pE_aload_n dL_law_439 rfl rfl ?_
  refine pE_iload_n dL_law_440 rfl rfl ?_
  refine pE_iconst (v := nI 3) dL_law_441 rfl ?_
  refine pE_iaddN dL_law_442 ?_
  refine pE_sload dL_law_443 (by exact hin _ (by omega)) ?_
  refine pE_aload_n dL_law_444 rfl rfl ?_
  refine pE_iload_n dL_law_445 rfl rfl ?_
  refine pE_iconst (v := nI 4) dL_law_446 rfl ?_
  refine pE_iaddN dL_law_447 ?_
  refine pE_sload dL_law_448 (by exact hin _ (by omega)) ?_
  refine pE_aload_n dL_law_449 rfl rfl ?_
  refine pE_iload_n dL_law_450 rfl rfl ?_
  refine pE_iconst (v := nI 5) dL_law_451 rfl ?_
  refine pE_iaddN dL_law_452 ?_
  refine pE_sload dL_law_453 (by exact hin _ (by omega)) ?_
  refine pE_callV (d' := 4) (as := [_, _, _, _, _]) dL_law_454 lkL_40 (cwX12_worth _ _) ivX12_worth ⟨_, rfl, rfl⟩ (by first | assumption | rfl) rfl rfl (Nat.le_of_ble_eq_true rfl) (by decide) pKK ?_
  refine z _ (fun I2 J2 hR2 => ?_)
  refine pE_icmp_eq (tgt := 1493) dL_law_457 (by decide) (fun h457 => ?_) (fun h457 => ?_)
  · exact hk _ _ _ _ hR2
  · exact absurd rfl h457
set_option maxHeartbeats 400000 in
set_option maxRecDepth 100000 in
theorem LC_climb {l : Launch} {X : pX} {t g j : Nat} {I : pHI} {J : pHJ} {Q : pQ} (hj : j + 6 ≤ X.1) (hX : X.1 ≤ 3072) (hR : Rel t g I) (hk : ∀ I1 J1 t1 g1, Rel t1 g1 I1 → pE l X mL_law 80 pK 1493 [some (.ref 2000000), some (.ref 0), some (.ref 67), some (.int (nI j))] [] pK I1 J1 (pR t1 g1) Q) : pE l X mL_law 80 pK 462 [some (.ref 2000000), some (.ref 0), some (.ref 67), some (.int (nI j))] [] pK I J (pR t g) Q := by
  have hin : ∀ k, k < X.1 → vp_in (nI k) X.1 := fun k hk => vp_in_nI hk (by omega)
  refine pE_aload_n dL_law_462 rfl rfl ?_
  refine pE_aload_n dL_law_463 rfl rfl ?_
  refine pE_iload_n dL_law_464 rfl rfl ?_
  refine pE_iconst (v := nI 1) dL_law_465 rfl ?_
  refine pE_iaddN dL_law_466 ?_
  refine pE_sload dL_law_467 (by exact hin _ (by omega)) ?_
  refine pE_aload_n dL_law_468 rfl rfl ?_
  refine pE_iload_n dL_law_469 rfl rfl ?_
  refine pE_iconst (v := nI 2) dL_law_470 rfl ?_
  refine pE_iaddN dL_law_471 ?_
  refine pE_sload dL_law_472 (by exact hin _ (by omega)) ?_
  refine pE_aload_n dL_law_473 rfl rfl ?_
  refine pE_iload_n dL_law_474 rfl rfl ?_
  refine pE_iconst (v := nI 3) dL_law_475 rfl ?_
  refine pE_iaddN dL_law_476 ?_
  refine pE_sload dL_law_477 (by exact hin _ (by omega)) ?_
  refine pE_aload_n dL_law_478 rfl rfl ?_
  refine pE_iload_n dL_law_479 rfl rfl ?_
  refine pE_iconst (v := nI 4) dL_law_480 rfl ?_
  refine pE_iaddN dL_law_481 ?_
  refine pE_sload dL_law_482 (by exact hin _ (by omega)) ?_
  refine pE_callV (d' := 3) (as := [_, _, _, _]) dL_law_483 lkL_41 (cwX11_climb _ _) ivX11_climb ⟨_, rfl, rfl⟩ (by first | assumption | rfl) rfl rfl (Nat.le_of_ble_eq_true rfl) (by decide) pKK ?_
  refine Z_climb hR (fun v I1 J1 t1 g1 z => ?_)
  refine pE_aload_n dL_law_486 rfl rfl ?_
  refine pE_aload_n dL_law_487 rfl rfl ?_
  refine pE_iload_n dL_law_488 rfl rfl ?_
  refine pE_iconst (v := nI 1) dL_law_489 rfl ?_
  refine pE_iaddN dL_law_490 ?_
  refine pE_sload dL_law_491 (by exact hin _ (by omega)) ?_
  refine pE_aload_n dL_law_492 rfl rfl ?_
  refine pE_iload_n dL_law_493 rfl rfl ?_
  refine pE_iconst (v := nI 2) dL_law_494 rfl ?_
  refine pE_iaddN dL_law_495 ?_
  refine pE_sload dL_law_496 (by exact hin _ (by omega)) ?_
  refine pE_aload_n dL_law_497 rfl rfl ?_
  refine pE_iload_n dL_law_498 rfl rfl ?_
  refine pE_iconst (v := nI 3) dL_law_499 rfl ?_
  refine pE_iaddN dL_law_500 ?_
  refine pE_sload dL_law_501 (by exact hin _ (by omega)) ?_
  refine pE_aload_n dL_law_502 rfl rfl ?_
  refine pE_iload_n dL_law_503 rfl rfl ?_
  refine pE_iconst (v := nI 4) dL_law_504 rfl ?_
  refine pE_iaddN dL_law_505 ?_
  refine pE_sload dL_law_506 (by exact hin _ (by omega)) ?_
  refine pE_callV (d' := 4) (as := [_, _, _, _]) dL_law_507 lkL_45 (cwX12_climb _ _) ivX12_climb ⟨_, rfl, rfl⟩ (by first | assumption | rfl) rfl rfl (Nat.le_of_ble_eq_true rfl) (by decide) pKK ?_
  refine z _ (fun I2 J2 hR2 => ?_)
  refine pE_icmp_eq (tgt := 1493) dL_law_510 (by decide) (fun h510 => ?_) (fun h510 => ?_)
  · exact hk _ _ _ _ hR2
  · exact absurd rfl h510
set_option maxHeartbeats 400000 in
set_option maxRecDepth 100000 in
theorem LC_give {l : Launch} {X : pX} {t g j : Nat} {I : pHI} {J : pHJ} {Q : pQ} (hj : j + 6 ≤ X.1) (hX : X.1 ≤ 3072) (hR : Rel t g I) (hk : ∀ I1 J1 t1 g1, Rel t1 g1 I1 → pE l X mL_law 80 pK 1493 [some (.ref 2000000), some (.ref 0), some (.ref 67), some (.int (nI j))] [] pK I1 J1 (pR t1 g1) Q) : pE l X mL_law 80 pK 515 [some (.ref 2000000), some (.ref 0), some (.ref 67), some (.int (nI j))] [] pK I J (pR t g) Q := by
  have hin : ∀ k, k < X.1 → vp_in (nI k) X.1 := fun k hk => vp_in_nI hk (by omega)
  refine pE_aload_n dL_law_515 rfl rfl ?_
  refine pE_aload_n dL_law_516 rfl rfl ?_
  refine pE_iload_n dL_law_517 rfl rfl ?_
  refine pE_iconst (v := nI 1) dL_law_518 rfl ?_
  refine pE_iaddN dL_law_519 ?_
  refine pE_sload dL_law_520 (by exact hin _ (by omega)) ?_
  refine pE_aload_n dL_law_521 rfl rfl ?_
  refine pE_iload_n dL_law_522 rfl rfl ?_
  refine pE_iconst (v := nI 2) dL_law_523 rfl ?_
  refine pE_iaddN dL_law_524 ?_
  refine pE_sload dL_law_525 (by exact hin _ (by omega)) ?_
  refine pE_aload_n dL_law_526 rfl rfl ?_
  refine pE_iload_n dL_law_527 rfl rfl ?_
  refine pE_iconst (v := nI 3) dL_law_528 rfl ?_
  refine pE_iaddN dL_law_529 ?_
  refine pE_sload dL_law_530 (by exact hin _ (by omega)) ?_
  refine pE_callV (d' := 3) (as := [_, _, _]) dL_law_531 lkL_46 (cwX11_give _ _) ivX11_give ⟨_, rfl, rfl⟩ (by first | assumption | rfl) rfl rfl (Nat.le_of_ble_eq_true rfl) (by decide) pKK ?_
  refine Z_give hR (fun v I1 J1 t1 g1 z => ?_)
  refine pE_aload_n dL_law_534 rfl rfl ?_
  refine pE_aload_n dL_law_535 rfl rfl ?_
  refine pE_iload_n dL_law_536 rfl rfl ?_
  refine pE_iconst (v := nI 1) dL_law_537 rfl ?_
  refine pE_iaddN dL_law_538 ?_
  refine pE_sload dL_law_539 (by exact hin _ (by omega)) ?_
  refine pE_aload_n dL_law_540 rfl rfl ?_
  refine pE_iload_n dL_law_541 rfl rfl ?_
  refine pE_iconst (v := nI 2) dL_law_542 rfl ?_
  refine pE_iaddN dL_law_543 ?_
  refine pE_sload dL_law_544 (by exact hin _ (by omega)) ?_
  refine pE_aload_n dL_law_545 rfl rfl ?_
  refine pE_iload_n dL_law_546 rfl rfl ?_
  refine pE_iconst (v := nI 3) dL_law_547 rfl ?_
  refine pE_iaddN dL_law_548 ?_
  refine pE_sload dL_law_549 (by exact hin _ (by omega)) ?_
  refine pE_callV (d' := 2) (as := [_, _, _]) dL_law_550 lkL_50 (cwX12_give _ _) ivX12_give ⟨_, rfl, rfl⟩ (by first | assumption | rfl) rfl rfl (Nat.le_of_ble_eq_true rfl) (by decide) pKK ?_
  refine z _ (fun I2 J2 hR2 => ?_)
  refine pE_icmp_eq (tgt := 1493) dL_law_553 (by decide) (fun h553 => ?_) (fun h553 => ?_)
  · exact hk _ _ _ _ hR2
  · exact absurd rfl h553
set_option maxHeartbeats 400000 in
set_option maxRecDepth 100000 in
theorem LC_week {l : Launch} {X : pX} {t g j : Nat} {I : pHI} {J : pHJ} {Q : pQ} (hj : j + 6 ≤ X.1) (hX : X.1 ≤ 3072) (hR : Rel t g I) (hk : ∀ I1 J1 t1 g1, Rel t1 g1 I1 → pE l X mL_law 80 pK 1493 [some (.ref 2000000), some (.ref 0), some (.ref 67), some (.int (nI j))] [] pK I1 J1 (pR t1 g1) Q) : pE l X mL_law 80 pK 558 [some (.ref 2000000), some (.ref 0), some (.ref 67), some (.int (nI j))] [] pK I J (pR t g) Q := by
  have hin : ∀ k, k < X.1 → vp_in (nI k) X.1 := fun k hk => vp_in_nI hk (by omega)
  refine pE_aload_n dL_law_558 rfl rfl ?_
  refine pE_callV (d' := 5) (as := []) dL_law_559 lkL_51 (cwX11_week _ _) ivX11_week ⟨_, rfl, rfl⟩ (by first | assumption | rfl) rfl rfl (Nat.le_of_ble_eq_true rfl) (by decide) pKK ?_
  refine Z_week hR (fun v I1 J1 t1 g1 z => ?_)
  refine pE_aload_n dL_law_562 rfl rfl ?_
  refine pE_callV (d' := 5) (as := []) dL_law_563 lkL_54 (cwX12_week _ _) ivX12_week ⟨_, rfl, rfl⟩ (by first | assumption | rfl) rfl rfl (Nat.le_of_ble_eq_true rfl) (by decide) pKK ?_
  refine z _ (fun I2 J2 hR2 => ?_)
  refine pE_icmp_eq (tgt := 1493) dL_law_566 (by decide) (fun h566 => ?_) (fun h566 => ?_)
  · exact hk _ _ _ _ hR2
  · exact absurd rfl h566
set_option maxHeartbeats 400000 in
set_option maxRecDepth 100000 in
theorem LC_undo {l : Launch} {X : pX} {t g j : Nat} {I : pHI} {J : pHJ} {Q : pQ} (hj : j + 6 ≤ X.1) (hX : X.1 ≤ 3072) (hR : Rel t g I) (hk : ∀ I1 J1 t1 g1, Rel t1 g1 I1 → pE l X mL_law 80 pK 1493 [some (.ref 2000000), some (.ref 0), some (.ref 67), some (.int (nI j))] [] pK I1 J1 (pR t1 g1) Q) : pE l X mL_law 80 pK 571 [some (.ref 2000000), some (.ref 0), some (.ref 67), some (.int (nI j))] [] pK I J (pR t g) Q := by
  have hin : ∀ k, k < X.1 → vp_in (nI k) X.1 := fun k hk => vp_in_nI hk (by omega)
  refine pE_aload_n dL_law_571 rfl rfl ?_
  refine pE_callV (d' := 3) (as := []) dL_law_572 lkL_55 (cwX11_undo _ _) ivX11_undo ⟨_, rfl, rfl⟩ (by first | assumption | rfl) rfl rfl (Nat.le_of_ble_eq_true rfl) (by decide) pKK ?_
  refine Z_undo hR (fun v I1 J1 t1 g1 z => ?_)
  refine pE_aload_n dL_law_575 rfl rfl ?_
  refine pE_callV (d' := 1) (as := []) dL_law_576 lkL_59 (cwX12_undo _ _) ivX12_undo ⟨_, rfl, rfl⟩ (by first | assumption | rfl) rfl rfl (Nat.le_of_ble_eq_true rfl) (by decide) pKK ?_
  refine z _ (fun I2 J2 hR2 => ?_)
  refine pE_icmp_eq (tgt := 1493) dL_law_579 (by decide) (fun h579 => ?_) (fun h579 => ?_)
  · exact hk _ _ _ _ hR2
  · exact absurd rfl h579
set_option maxHeartbeats 400000 in
set_option maxRecDepth 100000 in
theorem LC_redo {l : Launch} {X : pX} {t g j : Nat} {I : pHI} {J : pHJ} {Q : pQ} (hj : j + 6 ≤ X.1) (hX : X.1 ≤ 3072) (hR : Rel t g I) (hk : ∀ I1 J1 t1 g1, Rel t1 g1 I1 → pE l X mL_law 80 pK 1493 [some (.ref 2000000), some (.ref 0), some (.ref 67), some (.int (nI j))] [] pK I1 J1 (pR t1 g1) Q) : pE l X mL_law 80 pK 584 [some (.ref 2000000), some (.ref 0), some (.ref 67), some (.int (nI j))] [] pK I J (pR t g) Q := by
  have hin : ∀ k, k < X.1 → vp_in (nI k) X.1 := fun k hk => vp_in_nI hk (by omega)
  refine pE_aload_n dL_law_584 rfl rfl ?_
  refine pE_callV (d' := 3) (as := []) dL_law_585 lkL_60 (cwX11_redo _ _) ivX11_redo ⟨_, rfl, rfl⟩ (by first | assumption | rfl) rfl rfl (Nat.le_of_ble_eq_true rfl) (by decide) pKK ?_
  refine Z_redo hR (fun v I1 J1 t1 g1 z => ?_)
  refine pE_aload_n dL_law_588 rfl rfl ?_
  refine pE_callV (d' := 1) (as := []) dL_law_589 lkL_63 (cwX12_redo _ _) ivX12_redo ⟨_, rfl, rfl⟩ (by first | assumption | rfl) rfl rfl (Nat.le_of_ble_eq_true rfl) (by decide) pKK ?_
  refine z _ (fun I2 J2 hR2 => ?_)
  refine pE_icmp_eq (tgt := 1493) dL_law_592 (by decide) (fun h592 => ?_) (fun h592 => ?_)
  · exact hk _ _ _ _ hR2
  · exact absurd rfl h592
set_option maxHeartbeats 400000 in
set_option maxRecDepth 100000 in
theorem LC_fewest {l : Launch} {X : pX} {t g j : Nat} {I : pHI} {J : pHJ} {Q : pQ} (hj : j + 6 ≤ X.1) (hX : X.1 ≤ 3072) (hR : Rel t g I) (hk : ∀ I1 J1 t1 g1, Rel t1 g1 I1 → pE l X mL_law 80 pK 1493 [some (.ref 2000000), some (.ref 0), some (.ref 67), some (.int (nI j))] [] pK I1 J1 (pR t1 g1) Q) : pE l X mL_law 80 pK 597 [some (.ref 2000000), some (.ref 0), some (.ref 67), some (.int (nI j))] [] pK I J (pR t g) Q := by
  have hin : ∀ k, k < X.1 → vp_in (nI k) X.1 := fun k hk => vp_in_nI hk (by omega)
  refine pE_aload_n dL_law_597 rfl rfl ?_
  refine pE_aload_n dL_law_598 rfl rfl ?_
  refine pE_iload_n dL_law_599 rfl rfl ?_
  refine pE_iconst (v := nI 1) dL_law_600 rfl ?_
  refine pE_iaddN dL_law_601 ?_
  refine pE_sload dL_law_602 (by exact hin _ (by omega)) ?_
  refine pE_callV (d' := 5) (as := [_]) dL_law_603 lkL_64 (cwX11_fewest _ _) ivX11_fewest ⟨_, rfl, rfl⟩ (by first | assumption | rfl) rfl rfl (Nat.le_of_ble_eq_true rfl) (by decide) pKK ?_
  refine Z_fewest hR (fun v I1 J1 t1 g1 z => ?_)
  refine pE_aload_n dL_law_606 rfl rfl ?_
  refine pE_aload_n dL_law_607 rfl rfl ?_
  refine pE_iload_n dL_law_608 rfl rfl ?_
  refine pE_iconst (v := nI 1) dL_law_609 rfl ?_
  refine pE_iaddN dL_law_610 ?_
  refine pE_sload dL_law_611 (by exact hin _ (by omega)) ?_
  refine pE_callV (d' := 5) (as := [_]) dL_law_612 lkL_67 (cwX12_fewest _ _) ivX12_fewest ⟨_, rfl, rfl⟩ (by first | assumption | rfl) rfl rfl (Nat.le_of_ble_eq_true rfl) (by decide) pKK ?_
  refine z _ (fun I2 J2 hR2 => ?_)
  refine pE_icmp_eq (tgt := 1493) dL_law_615 (by decide) (fun h615 => ?_) (fun h615 => ?_)
  · exact hk _ _ _ _ hR2
  · exact absurd rfl h615
set_option maxHeartbeats 400000 in
set_option maxRecDepth 100000 in
theorem LC_carries {l : Launch} {X : pX} {t g j : Nat} {I : pHI} {J : pHJ} {Q : pQ} (hj : j + 6 ≤ X.1) (hX : X.1 ≤ 3072) (hR : Rel t g I) (hk : ∀ I1 J1 t1 g1, Rel t1 g1 I1 → pE l X mL_law 80 pK 1493 [some (.ref 2000000), some (.ref 0), some (.ref 67), some (.int (nI j))] [] pK I1 J1 (pR t1 g1) Q) : pE l X mL_law 80 pK 620 [some (.ref 2000000), some (.ref 0), some (.ref 67), some (.int (nI j))] [] pK I J (pR t g) Q := by
  have hin : ∀ k, k < X.1 → vp_in (nI k) X.1 := fun k hk => vp_in_nI hk (by omega)
  refine pE_aload_n dL_law_620 rfl rfl ?_
  refine pE_aload_n dL_law_621 rfl rfl ?_
  refine pE_iload_n dL_law_622 rfl rfl ?_
  refine pE_iconst (v := nI 1) dL_law_623 rfl ?_
  refine pE_iaddN dL_law_624 ?_
  refine pE_sload dL_law_625 (by exact hin _ (by omega)) ?_
  refine pE_aload_n dL_law_626 rfl rfl ?_
  refine pE_iload_n dL_law_627 rfl rfl ?_
  refine pE_iconst (v := nI 2) dL_law_628 rfl ?_
  refine pE_iaddN dL_law_629 ?_
  refine pE_sload dL_law_630 (by exact hin _ (by omega)) ?_
  refine pE_callV (d' := 2) (as := [_, _]) dL_law_631 lkL_68 (cwX11_carries _ _) ivX11_carries ⟨_, rfl, rfl⟩ (by first | assumption | rfl) rfl rfl (Nat.le_of_ble_eq_true rfl) (by decide) pKK ?_
  refine Z_carries hR (fun v I1 J1 t1 g1 z => ?_)
  refine pE_aload_n dL_law_634 rfl rfl ?_
  refine pE_aload_n dL_law_635 rfl rfl ?_
  refine pE_iload_n dL_law_636 rfl rfl ?_
  refine pE_iconst (v := nI 1) dL_law_637 rfl ?_
  refine pE_iaddN dL_law_638 ?_
  refine pE_sload dL_law_639 (by exact hin _ (by omega)) ?_
  refine pE_aload_n dL_law_640 rfl rfl ?_
  refine pE_iload_n dL_law_641 rfl rfl ?_
  refine pE_iconst (v := nI 2) dL_law_642 rfl ?_
  refine pE_iaddN dL_law_643 ?_
  refine pE_sload dL_law_644 (by exact hin _ (by omega)) ?_
  refine pE_callV (d' := 2) (as := [_, _]) dL_law_645 lkL_71 (cwX12_carries _ _) ivX12_carries ⟨_, rfl, rfl⟩ (by first | assumption | rfl) rfl rfl (Nat.le_of_ble_eq_true rfl) (by decide) pKK ?_
  refine z _ (fun I2 J2 hR2 => ?_)
  refine pE_icmp_eq (tgt := 1493) dL_law_648 (by decide) (fun h648 => ?_) (fun h648 => ?_)
  · exact hk _ _ _ _ hR2
  · exact absurd rfl h648
set_option maxHeartbeats 400000 in
set_option maxRecDepth 100000 in
theorem LC_care {l : Launch} {X : pX} {t g j : Nat} {I : pHI} {J : pHJ} {Q : pQ} (hj : j + 6 ≤ X.1) (hX : X.1 ≤ 3072) (hR : Rel t g I) (hk : ∀ I1 J1 t1 g1, Rel t1 g1 I1 → pE l X mL_law 80 pK 1493 [some (.ref 2000000), some (.ref 0), some (.ref 67), some (.int (nI j))] [] pK I1 J1 (pR t1 g1) Q) : pE l X mL_law 80 pK 653 [some (.ref 2000000), some (.ref 0), some (.ref 67), some (.int (nI j))] [] pK I J (pR t g) Q := by
  have hin : ∀ k, k < X.1 → vp_in (nI k) X.1 := fun k hk => vp_in_nI hk (by omega)
  refine pE_aload_n dL_law_653 rfl rfl ?_
  refine pE_callV (d' := 4) (as := []) dL_law_654 lkL_72 (cwX11_care _ _) ivX11_care ⟨_, rfl, rfl⟩ (by first | assumption | rfl) rfl rfl (Nat.le_of_ble_eq_true rfl) (by decide) pKK ?_
  refine Z_care hR (fun v I1 J1 t1 g1 z => ?_)
  refine pE_aload_n dL_law_657 rfl rfl ?_
  refine pE_callV (d' := 2) (as := []) dL_law_658 lkL_75 (cwX12_care _ _) ivX12_care ⟨_, rfl, rfl⟩ (by first | assumption | rfl) rfl rfl (Nat.le_of_ble_eq_true rfl) (by decide) pKK ?_
  refine z _ (fun I2 J2 hR2 => ?_)
  refine pE_icmp_eq (tgt := 1493) dL_law_661 (by decide) (fun h661 => ?_) (fun h661 => ?_)
  · exact hk _ _ _ _ hR2
  · exact absurd rfl h661
set_option maxHeartbeats 400000 in
set_option maxRecDepth 100000 in
theorem LC_gifts {l : Launch} {X : pX} {t g j : Nat} {I : pHI} {J : pHJ} {Q : pQ} (hj : j + 6 ≤ X.1) (hX : X.1 ≤ 3072) (hR : Rel t g I) (hk : ∀ I1 J1 t1 g1, Rel t1 g1 I1 → pE l X mL_law 80 pK 1493 [some (.ref 2000000), some (.ref 0), some (.ref 67), some (.int (nI j))] [] pK I1 J1 (pR t1 g1) Q) : pE l X mL_law 80 pK 666 [some (.ref 2000000), some (.ref 0), some (.ref 67), some (.int (nI j))] [] pK I J (pR t g) Q := by
  have hin : ∀ k, k < X.1 → vp_in (nI k) X.1 := fun k hk => vp_in_nI hk (by omega)
  refine pE_aload_n dL_law_666 rfl rfl ?_
  refine pE_aload_n dL_law_667 rfl rfl ?_
  refine pE_iload_n dL_law_668 rfl rfl ?_
  refine pE_iconst (v := nI 1) dL_law_669 rfl ?_
  refine pE_iaddN dL_law_670 ?_
  refine pE_sload dL_law_671 (by exact hin _ (by omega)) ?_
  refine pE_callV (d' := 3) (as := [_]) dL_law_672 lkL_76 (cwX11_gifts _ _) ivX11_gifts ⟨_, rfl, rfl⟩ (by first | assumption | rfl) rfl rfl (Nat.le_of_ble_eq_true rfl) (by decide) pKK ?_
  refine Z_gifts hR (fun v I1 J1 t1 g1 z => ?_)
  refine pE_aload_n dL_law_675 rfl rfl ?_
  refine pE_aload_n dL_law_676 rfl rfl ?_
  refine pE_iload_n dL_law_677 rfl rfl ?_
  refine pE_iconst (v := nI 1) dL_law_678 rfl ?_
  refine pE_iaddN dL_law_679 ?_
  refine pE_sload dL_law_680 (by exact hin _ (by omega)) ?_
  refine pE_callV (d' := 3) (as := [_]) dL_law_681 lkL_79 (cwX12_gifts _ _) ivX12_gifts ⟨_, rfl, rfl⟩ (by first | assumption | rfl) rfl rfl (Nat.le_of_ble_eq_true rfl) (by decide) pKK ?_
  refine z _ (fun I2 J2 hR2 => ?_)
  refine pE_icmp_eq (tgt := 1493) dL_law_684 (by decide) (fun h684 => ?_) (fun h684 => ?_)
  · exact hk _ _ _ _ hR2
  · exact absurd rfl h684
set_option maxHeartbeats 400000 in
set_option maxRecDepth 100000 in
theorem LC_envies {l : Launch} {X : pX} {t g j : Nat} {I : pHI} {J : pHJ} {Q : pQ} (hj : j + 6 ≤ X.1) (hX : X.1 ≤ 3072) (hR : Rel t g I) (hk : ∀ I1 J1 t1 g1, Rel t1 g1 I1 → pE l X mL_law 80 pK 1493 [some (.ref 2000000), some (.ref 0), some (.ref 67), some (.int (nI j))] [] pK I1 J1 (pR t1 g1) Q) : pE l X mL_law 80 pK 689 [some (.ref 2000000), some (.ref 0), some (.ref 67), some (.int (nI j))] [] pK I J (pR t g) Q := by
  have hin : ∀ k, k < X.1 → vp_in (nI k) X.1 := fun k hk => vp_in_nI hk (by omega)
  refine pE_aload_n dL_law_689 rfl rfl ?_
  refine pE_aload_n dL_law_690 rfl rfl ?_
  refine pE_iload_n dL_law_691 rfl rfl ?_
  refine pE_iconst (v := nI 1) dL_law_692 rfl ?_
  refine pE_iaddN dL_law_693 ?_
  refine pE_sload dL_law_694 (by exact hin _ (by omega)) ?_
  refine pE_callV (d' := 1) (as := [_]) dL_law_695 lkL_80 (cwX11_envies _ _) ivX11_envies ⟨_, rfl, rfl⟩ (by first | assumption | rfl) rfl rfl (Nat.le_of_ble_eq_true rfl) (by decide) pKK ?_
  refine Z_envies hR (fun v I1 J1 t1 g1 z => ?_)
  refine pE_aload_n dL_law_698 rfl rfl ?_
  refine pE_aload_n dL_law_699 rfl rfl ?_
  refine pE_iload_n dL_law_700 rfl rfl ?_
  refine pE_iconst (v := nI 1) dL_law_701 rfl ?_
  refine pE_iaddN dL_law_702 ?_
  refine pE_sload dL_law_703 (by exact hin _ (by omega)) ?_
  refine pE_callV (d' := 2) (as := [_]) dL_law_704 lkL_83 (cwX12_envies _ _) ivX12_envies ⟨_, rfl, rfl⟩ (by first | assumption | rfl) rfl rfl (Nat.le_of_ble_eq_true rfl) (by decide) pKK ?_
  refine z _ (fun I2 J2 hR2 => ?_)
  refine pE_icmp_eq (tgt := 1493) dL_law_707 (by decide) (fun h707 => ?_) (fun h707 => ?_)
  · exact hk _ _ _ _ hR2
  · exact absurd rfl h707
set_option maxHeartbeats 400000 in
set_option maxRecDepth 100000 in
theorem LC_let {l : Launch} {X : pX} {t g j : Nat} {I : pHI} {J : pHJ} {Q : pQ} (hj : j + 6 ≤ X.1) (hX : X.1 ≤ 3072) (hR : Rel t g I) (hk : ∀ I1 J1 t1 g1, Rel t1 g1 I1 → pE l X mL_law 80 pK 1493 [some (.ref 2000000), some (.ref 0), some (.ref 67), some (.int (nI j))] [] pK I1 J1 (pR t1 g1) Q) : pE l X mL_law 80 pK 712 [some (.ref 2000000), some (.ref 0), some (.ref 67), some (.int (nI j))] [] pK I J (pR t g) Q := by
  have hin : ∀ k, k < X.1 → vp_in (nI k) X.1 := fun k hk => vp_in_nI hk (by omega)
  refine pE_aload_n dL_law_712 rfl rfl ?_
  refine pE_callV (d' := 4) (as := []) dL_law_713 lkL_84 (cwX11_let _ _) ivX11_let ⟨_, rfl, rfl⟩ (by first | assumption | rfl) rfl rfl (Nat.le_of_ble_eq_true rfl) (by decide) pKK ?_
  refine Z_let hR (fun v I1 J1 t1 g1 z => ?_)
  refine pE_aload_n dL_law_716 rfl rfl ?_
  refine pE_callV (d' := 2) (as := []) dL_law_717 lkL_87 (cwX12_let _ _) ivX12_let ⟨_, rfl, rfl⟩ (by first | assumption | rfl) rfl rfl (Nat.le_of_ble_eq_true rfl) (by decide) pKK ?_
  refine z _ (fun I2 J2 hR2 => ?_)
  refine pE_icmp_eq (tgt := 1493) dL_law_720 (by decide) (fun h720 => ?_) (fun h720 => ?_)
  · exact hk _ _ _ _ hR2
  · exact absurd rfl h720
set_option maxHeartbeats 400000 in
set_option maxRecDepth 100000 in
theorem LC_month {l : Launch} {X : pX} {t g j : Nat} {I : pHI} {J : pHJ} {Q : pQ} (hj : j + 6 ≤ X.1) (hX : X.1 ≤ 3072) (hR : Rel t g I) (hk : ∀ I1 J1 t1 g1, Rel t1 g1 I1 → pE l X mL_law 80 pK 1493 [some (.ref 2000000), some (.ref 0), some (.ref 67), some (.int (nI j))] [] pK I1 J1 (pR t1 g1) Q) : pE l X mL_law 80 pK 725 [some (.ref 2000000), some (.ref 0), some (.ref 67), some (.int (nI j))] [] pK I J (pR t g) Q := by
  have hin : ∀ k, k < X.1 → vp_in (nI k) X.1 := fun k hk => vp_in_nI hk (by omega)
  refine pE_aload_n dL_law_725 rfl rfl ?_
  refine pE_aload_n dL_law_726 rfl rfl ?_
  refine pE_iload_n dL_law_727 rfl rfl ?_
  refine pE_iconst (v := nI 1) dL_law_728 rfl ?_
  refine pE_iaddN dL_law_729 ?_
  refine pE_sload dL_law_730 (by exact hin _ (by omega)) ?_
  refine pE_callV (d' := 1) (as := [_]) dL_law_731 lkL_88 (cwX11_month _ _) ivX11_month ⟨_, rfl, rfl⟩ (by first | assumption | rfl) rfl rfl (Nat.le_of_ble_eq_true rfl) (by decide) pKK ?_
  refine Z_month hR (fun v I1 J1 t1 g1 z => ?_)
  refine pE_aload_n dL_law_734 rfl rfl ?_
  refine pE_aload_n dL_law_735 rfl rfl ?_
  refine pE_iload_n dL_law_736 rfl rfl ?_
  refine pE_iconst (v := nI 1) dL_law_737 rfl ?_
  refine pE_iaddN dL_law_738 ?_
  refine pE_sload dL_law_739 (by exact hin _ (by omega)) ?_
  refine pE_callV (d' := 2) (as := [_]) dL_law_740 lkL_91 (cwX12_month _ _) ivX12_month ⟨_, rfl, rfl⟩ (by first | assumption | rfl) rfl rfl (Nat.le_of_ble_eq_true rfl) (by decide) pKK ?_
  refine z _ (fun I2 J2 hR2 => ?_)
  refine pE_icmp_eq (tgt := 1493) dL_law_743 (by decide) (fun h743 => ?_) (fun h743 => ?_)
  · exact hk _ _ _ _ hR2
  · exact absurd rfl h743
set_option maxHeartbeats 400000 in
set_option maxRecDepth 100000 in
theorem LC_rest {l : Launch} {X : pX} {t g j : Nat} {I : pHI} {J : pHJ} {Q : pQ} (hj : j + 6 ≤ X.1) (hX : X.1 ≤ 3072) (hR : Rel t g I) (hk : ∀ I1 J1 t1 g1, Rel t1 g1 I1 → pE l X mL_law 80 pK 1493 [some (.ref 2000000), some (.ref 0), some (.ref 67), some (.int (nI j))] [] pK I1 J1 (pR t1 g1) Q) : pE l X mL_law 80 pK 748 [some (.ref 2000000), some (.ref 0), some (.ref 67), some (.int (nI j))] [] pK I J (pR t g) Q := by
  have hin : ∀ k, k < X.1 → vp_in (nI k) X.1 := fun k hk => vp_in_nI hk (by omega)
  refine pE_aload_n dL_law_748 rfl rfl ?_
  refine pE_callV (d' := 5) (as := []) dL_law_749 lkL_92 (cwX11_rest _ _) ivX11_rest ⟨_, rfl, rfl⟩ (by first | assumption | rfl) rfl rfl (Nat.le_of_ble_eq_true rfl) (by decide) pKK ?_
  refine Z_rest hR (fun v I1 J1 t1 g1 z => ?_)
  refine pE_aload_n dL_law_752 rfl rfl ?_
  refine pE_callV (d' := 5) (as := []) dL_law_753 lkL_95 (cwX12_rest _ _) ivX12_rest ⟨_, rfl, rfl⟩ (by first | assumption | rfl) rfl rfl (Nat.le_of_ble_eq_true rfl) (by decide) pKK ?_
  refine z _ (fun I2 J2 hR2 => ?_)
  refine pE_icmp_eq (tgt := 1493) dL_law_756 (by decide) (fun h756 => ?_) (fun h756 => ?_)
  · exact hk _ _ _ _ hR2
  · exact absurd rfl h756
set_option maxHeartbeats 400000 in
set_option maxRecDepth 100000 in
theorem LC_will {l : Launch} {X : pX} {t g j : Nat} {I : pHI} {J : pHJ} {Q : pQ} (hj : j + 6 ≤ X.1) (hX : X.1 ≤ 3072) (hR : Rel t g I) (hk : ∀ I1 J1 t1 g1, Rel t1 g1 I1 → pE l X mL_law 80 pK 1493 [some (.ref 2000000), some (.ref 0), some (.ref 67), some (.int (nI j))] [] pK I1 J1 (pR t1 g1) Q) : pE l X mL_law 80 pK 761 [some (.ref 2000000), some (.ref 0), some (.ref 67), some (.int (nI j))] [] pK I J (pR t g) Q := by
  have hin : ∀ k, k < X.1 → vp_in (nI k) X.1 := fun k hk => vp_in_nI hk (by omega)
  refine pE_aload_n dL_law_761 rfl rfl ?_
  refine pE_aload_n dL_law_762 rfl rfl ?_
  refine pE_iload_n dL_law_763 rfl rfl ?_
  refine pE_iconst (v := nI 1) dL_law_764 rfl ?_
  refine pE_iaddN dL_law_765 ?_
  refine pE_sload dL_law_766 (by exact hin _ (by omega)) ?_
  refine pE_callV (d' := 6) (as := [_]) dL_law_767 lkL_96 (cwX11_will _ _) ivX11_will ⟨_, rfl, rfl⟩ (by first | assumption | rfl) rfl rfl (Nat.le_of_ble_eq_true rfl) (by decide) pKK ?_
  refine Z_will hR (fun v I1 J1 t1 g1 z => ?_)
  refine pE_aload_n dL_law_770 rfl rfl ?_
  refine pE_aload_n dL_law_771 rfl rfl ?_
  refine pE_iload_n dL_law_772 rfl rfl ?_
  refine pE_iconst (v := nI 1) dL_law_773 rfl ?_
  refine pE_iaddN dL_law_774 ?_
  refine pE_sload dL_law_775 (by exact hin _ (by omega)) ?_
  refine pE_callV (d' := 6) (as := [_]) dL_law_776 lkL_99 (cwX12_will _ _) ivX12_will ⟨_, rfl, rfl⟩ (by first | assumption | rfl) rfl rfl (Nat.le_of_ble_eq_true rfl) (by decide) pKK ?_
  refine z _ (fun I2 J2 hR2 => ?_)
  refine pE_icmp_eq (tgt := 1493) dL_law_779 (by decide) (fun h779 => ?_) (fun h779 => ?_)
  · exact hk _ _ _ _ hR2
  · exact absurd rfl h779
set_option maxHeartbeats 400000 in
set_option maxRecDepth 100000 in
theorem LC_pull {l : Launch} {X : pX} {t g j : Nat} {I : pHI} {J : pHJ} {Q : pQ} (hj : j + 6 ≤ X.1) (hX : X.1 ≤ 3072) (hR : Rel t g I) (hk : ∀ I1 J1 t1 g1, Rel t1 g1 I1 → pE l X mL_law 80 pK 1493 [some (.ref 2000000), some (.ref 0), some (.ref 67), some (.int (nI j))] [] pK I1 J1 (pR t1 g1) Q) : pE l X mL_law 80 pK 784 [some (.ref 2000000), some (.ref 0), some (.ref 67), some (.int (nI j))] [] pK I J (pR t g) Q := by
  have hin : ∀ k, k < X.1 → vp_in (nI k) X.1 := fun k hk => vp_in_nI hk (by omega)
  refine pE_aload_n dL_law_784 rfl rfl ?_
  refine pE_callV (d' := 3) (as := []) dL_law_785 lkL_100 (cwX11_pull _ _) ivX11_pull ⟨_, rfl, rfl⟩ (by first | assumption | rfl) rfl rfl (Nat.le_of_ble_eq_true rfl) (by decide) pKK ?_
  refine Z_pull hR (fun v I1 J1 t1 g1 z => ?_)
  refine pE_aload_n dL_law_788 rfl rfl ?_
  refine pE_callV (d' := 4) (as := []) dL_law_789 lkL_103 (cwX12_pull _ _) ivX12_pull ⟨_, rfl, rfl⟩ (by first | assumption | rfl) rfl rfl (Nat.le_of_ble_eq_true rfl) (by decide) pKK ?_
  refine z _ (fun I2 J2 hR2 => ?_)
  refine pE_icmp_eq (tgt := 1493) dL_law_792 (by decide) (fun h792 => ?_) (fun h792 => ?_)
  · exact hk _ _ _ _ hR2
  · exact absurd rfl h792
set_option maxHeartbeats 400000 in
set_option maxRecDepth 100000 in
theorem LC_lever {l : Launch} {X : pX} {t g j : Nat} {I : pHI} {J : pHJ} {Q : pQ} (hj : j + 6 ≤ X.1) (hX : X.1 ≤ 3072) (hR : Rel t g I) (hk : ∀ I1 J1 t1 g1, Rel t1 g1 I1 → pE l X mL_law 80 pK 1493 [some (.ref 2000000), some (.ref 0), some (.ref 67), some (.int (nI j))] [] pK I1 J1 (pR t1 g1) Q) : pE l X mL_law 80 pK 797 [some (.ref 2000000), some (.ref 0), some (.ref 67), some (.int (nI j))] [] pK I J (pR t g) Q := by
  have hin : ∀ k, k < X.1 → vp_in (nI k) X.1 := fun k hk => vp_in_nI hk (by omega)
  refine pE_aload_n dL_law_797 rfl rfl ?_
  refine pE_callV (d' := 4) (as := []) dL_law_798 lkL_104 (cwX11_lever _ _) ivX11_lever ⟨_, rfl, rfl⟩ (by first | assumption | rfl) rfl rfl (Nat.le_of_ble_eq_true rfl) (by decide) pKK ?_
  refine Z_lever hR (fun v I1 J1 t1 g1 z => ?_)
  refine pE_aload_n dL_law_801 rfl rfl ?_
  refine pE_callV (d' := 5) (as := []) dL_law_802 lkL_107 (cwX12_lever _ _) ivX12_lever ⟨_, rfl, rfl⟩ (by first | assumption | rfl) rfl rfl (Nat.le_of_ble_eq_true rfl) (by decide) pKK ?_
  refine z _ (fun I2 J2 hR2 => ?_)
  refine pE_icmp_eq (tgt := 1493) dL_law_805 (by decide) (fun h805 => ?_) (fun h805 => ?_)
  · exact hk _ _ _ _ hR2
  · exact absurd rfl h805
set_option maxHeartbeats 400000 in
set_option maxRecDepth 100000 in
theorem LC_odds {l : Launch} {X : pX} {t g j : Nat} {I : pHI} {J : pHJ} {Q : pQ} (hj : j + 6 ≤ X.1) (hX : X.1 ≤ 3072) (hR : Rel t g I) (hk : ∀ I1 J1 t1 g1, Rel t1 g1 I1 → pE l X mL_law 80 pK 1493 [some (.ref 2000000), some (.ref 0), some (.ref 67), some (.int (nI j))] [] pK I1 J1 (pR t1 g1) Q) : pE l X mL_law 80 pK 810 [some (.ref 2000000), some (.ref 0), some (.ref 67), some (.int (nI j))] [] pK I J (pR t g) Q := by
  have hin : ∀ k, k < X.1 → vp_in (nI k) X.1 := fun k hk => vp_in_nI hk (by omega)
  refine pE_aload_n dL_law_810 rfl rfl ?_
  refine pE_aload_n dL_law_811 rfl rfl ?_
  refine pE_iload_n dL_law_812 rfl rfl ?_
  refine pE_iconst (v := nI 1) dL_law_813 rfl ?_
  refine pE_iaddN dL_law_814 ?_
  refine pE_sload dL_law_815 (by exact hin _ (by omega)) ?_
  refine pE_aload_n dL_law_816 rfl rfl ?_
  refine pE_iload_n dL_law_817 rfl rfl ?_
  refine pE_iconst (v := nI 2) dL_law_818 rfl ?_
  refine pE_iaddN dL_law_819 ?_
  refine pE_sload dL_law_820 (by exact hin _ (by omega)) ?_
  refine pE_aload_n dL_law_821 rfl rfl ?_
  refine pE_iload_n dL_law_822 rfl rfl ?_
  refine pE_iconst (v := nI 3) dL_law_823 rfl ?_
  refine pE_iaddN dL_law_824 ?_
  refine pE_sload dL_law_825 (by exact hin _ (by omega)) ?_
  refine pE_aload_n dL_law_826 rfl rfl ?_
  refine pE_iload_n dL_law_827 rfl rfl ?_
  refine pE_iconst (v := nI 4) dL_law_828 rfl ?_
  refine pE_iaddN dL_law_829 ?_
  refine pE_sload dL_law_830 (by exact hin _ (by omega)) ?_
  refine pE_callV (d' := 1) (as := [_, _, _, _]) dL_law_831 lkL_108 (cwX11_odds _ _) ivX11_odds ⟨_, rfl, rfl⟩ (by first | assumption | rfl) rfl rfl (Nat.le_of_ble_eq_true rfl) (by decide) pKK ?_
  refine Z_odds hR (fun v I1 J1 t1 g1 z => ?_)
  refine pE_aload_n dL_law_834 rfl rfl ?_
  refine pE_aload_n dL_law_835 rfl rfl ?_
  refine pE_iload_n dL_law_836 rfl rfl ?_
  refine pE_iconst (v := nI 1) dL_law_837 rfl ?_
  refine pE_iaddN dL_law_838 ?_
  refine pE_sload dL_law_839 (by exact hin _ (by omega)) ?_
  refine pE_aload_n dL_law_840 rfl rfl ?_
  refine pE_iload_n dL_law_841 rfl rfl ?_
  refine pE_iconst (v := nI 2) dL_law_842 rfl ?_
  refine pE_iaddN dL_law_843 ?_
  refine pE_sload dL_law_844 (by exact hin _ (by omega)) ?_
  refine pE_aload_n dL_law_845 rfl rfl ?_
  refine pE_iload_n dL_law_846 rfl rfl ?_
  refine pE_iconst (v := nI 3) dL_law_847 rfl ?_
  refine pE_iaddN dL_law_848 ?_
  refine pE_sload dL_law_849 (by exact hin _ (by omega)) ?_
  refine pE_aload_n dL_law_850 rfl rfl ?_
  refine pE_iload_n dL_law_851 rfl rfl ?_
  refine pE_iconst (v := nI 4) dL_law_852 rfl ?_
  refine pE_iaddN dL_law_853 ?_
  refine pE_sload dL_law_854 (by exact hin _ (by omega)) ?_
  refine pE_callV (d' := 2) (as := [_, _, _, _]) dL_law_855 lkL_111 (cwX12_odds _ _) ivX12_odds ⟨_, rfl, rfl⟩ (by first | assumption | rfl) rfl rfl (Nat.le_of_ble_eq_true rfl) (by decide) pKK ?_
  refine z _ (fun I2 J2 hR2 => ?_)
  refine pE_icmp_eq (tgt := 1493) dL_law_858 (by decide) (fun h858 => ?_) (fun h858 => ?_)
  · exact hk _ _ _ _ hR2
  · exact absurd rfl h858
set_option maxHeartbeats 400000 in
set_option maxRecDepth 100000 in
theorem LC_poorest {l : Launch} {X : pX} {t g j : Nat} {I : pHI} {J : pHJ} {Q : pQ} (hj : j + 6 ≤ X.1) (hX : X.1 ≤ 3072) (hR : Rel t g I) (hk : ∀ I1 J1 t1 g1, Rel t1 g1 I1 → pE l X mL_law 80 pK 1493 [some (.ref 2000000), some (.ref 0), some (.ref 67), some (.int (nI j))] [] pK I1 J1 (pR t1 g1) Q) : pE l X mL_law 80 pK 863 [some (.ref 2000000), some (.ref 0), some (.ref 67), some (.int (nI j))] [] pK I J (pR t g) Q := by
  have hin : ∀ k, k < X.1 → vp_in (nI k) X.1 := fun k hk => vp_in_nI hk (by omega)
  refine pE_aload_n dL_law_863 rfl rfl ?_
  refine pE_callV (d' := 2) (as := []) dL_law_864 lkL_112 (cwX11_poorest _ _) ivX11_poorest ⟨_, rfl, rfl⟩ (by first | assumption | rfl) rfl rfl (Nat.le_of_ble_eq_true rfl) (by decide) pKK ?_
  refine Z_poorest hR (fun v I1 J1 t1 g1 z => ?_)
  refine pE_aload_n dL_law_867 rfl rfl ?_
  refine pE_callV (d' := 2) (as := []) dL_law_868 lkL_115 (cwX12_poorest _ _) ivX12_poorest ⟨_, rfl, rfl⟩ (by first | assumption | rfl) rfl rfl (Nat.le_of_ble_eq_true rfl) (by decide) pKK ?_
  refine z _ (fun I2 J2 hR2 => ?_)
  refine pE_icmp_eq (tgt := 1493) dL_law_871 (by decide) (fun h871 => ?_) (fun h871 => ?_)
  · exact hk _ _ _ _ hR2
  · exact absurd rfl h871
set_option maxHeartbeats 400000 in
set_option maxRecDepth 100000 in
theorem LC_owing {l : Launch} {X : pX} {t g j : Nat} {I : pHI} {J : pHJ} {Q : pQ} (hj : j + 6 ≤ X.1) (hX : X.1 ≤ 3072) (hR : Rel t g I) (hk : ∀ I1 J1 t1 g1, Rel t1 g1 I1 → pE l X mL_law 80 pK 1493 [some (.ref 2000000), some (.ref 0), some (.ref 67), some (.int (nI j))] [] pK I1 J1 (pR t1 g1) Q) : pE l X mL_law 80 pK 876 [some (.ref 2000000), some (.ref 0), some (.ref 67), some (.int (nI j))] [] pK I J (pR t g) Q := by
  have hin : ∀ k, k < X.1 → vp_in (nI k) X.1 := fun k hk => vp_in_nI hk (by omega)
  refine pE_aload_n dL_law_876 rfl rfl ?_
  refine pE_callV (d' := 2) (as := []) dL_law_877 lkL_116 (cwX11_owing _ _) ivX11_owing ⟨_, rfl, rfl⟩ (by first | assumption | rfl) rfl rfl (Nat.le_of_ble_eq_true rfl) (by decide) pKK ?_
  refine Z_owing hR (fun v I1 J1 t1 g1 z => ?_)
  refine pE_aload_n dL_law_880 rfl rfl ?_
  refine pE_callV (d' := 2) (as := []) dL_law_881 lkL_119 (cwX12_owing _ _) ivX12_owing ⟨_, rfl, rfl⟩ (by first | assumption | rfl) rfl rfl (Nat.le_of_ble_eq_true rfl) (by decide) pKK ?_
  refine z _ (fun I2 J2 hR2 => ?_)
  refine pE_icmp_eq (tgt := 1493) dL_law_884 (by decide) (fun h884 => ?_) (fun h884 => ?_)
  · exact hk _ _ _ _ hR2
  · exact absurd rfl h884
set_option maxHeartbeats 400000 in
set_option maxRecDepth 100000 in
theorem LC_law {l : Launch} {X : pX} {t g j : Nat} {I : pHI} {J : pHJ} {Q : pQ} (hj : j + 6 ≤ X.1) (hX : X.1 ≤ 3072) (hR : Rel t g I) (hk : ∀ I1 J1 t1 g1, Rel t1 g1 I1 → pE l X mL_law 80 pK 1493 [some (.ref 2000000), some (.ref 0), some (.ref 67), some (.int (nI j))] [] pK I1 J1 (pR t1 g1) Q) : pE l X mL_law 80 pK 889 [some (.ref 2000000), some (.ref 0), some (.ref 67), some (.int (nI j))] [] pK I J (pR t g) Q := by
  have hin : ∀ k, k < X.1 → vp_in (nI k) X.1 := fun k hk => vp_in_nI hk (by omega)
  refine pE_aload_n dL_law_889 rfl rfl ?_
  refine pE_aload_n dL_law_890 rfl rfl ?_
  refine pE_iload_n dL_law_891 rfl rfl ?_
  refine pE_iconst (v := nI 1) dL_law_892 rfl ?_
  refine pE_iaddN dL_law_893 ?_
  refine pE_sload dL_law_894 (by exact hin _ (by omega)) ?_
  refine pE_callV (d' := 1) (as := [_]) dL_law_895 lkL_120 (cwX11_law _ _) ivX11_law ⟨_, rfl, rfl⟩ (by first | assumption | rfl) rfl rfl (Nat.le_of_ble_eq_true rfl) (by decide) pKK ?_
  refine Z_law hR (fun v I1 J1 t1 g1 z => ?_)
  refine pE_aload_n dL_law_898 rfl rfl ?_
  refine pE_aload_n dL_law_899 rfl rfl ?_
  refine pE_iload_n dL_law_900 rfl rfl ?_
  refine pE_iconst (v := nI 1) dL_law_901 rfl ?_
  refine pE_iaddN dL_law_902 ?_
  refine pE_sload dL_law_903 (by exact hin _ (by omega)) ?_
  refine pE_callV (d' := 1) (as := [_]) dL_law_904 lkL_123 (cwX12_law _ _) ivX12_law ⟨_, rfl, rfl⟩ (by first | assumption | rfl) rfl rfl (Nat.le_of_ble_eq_true rfl) (by decide) pKK ?_
  refine z _ (fun I2 J2 hR2 => ?_)
  refine pE_icmp_eq (tgt := 1493) dL_law_907 (by decide) (fun h907 => ?_) (fun h907 => ?_)
  · exact hk _ _ _ _ hR2
  · exact absurd rfl h907
set_option maxHeartbeats 400000 in
set_option maxRecDepth 100000 in
theorem LC_stride {l : Launch} {X : pX} {t g j : Nat} {I : pHI} {J : pHJ} {Q : pQ} (hj : j + 6 ≤ X.1) (hX : X.1 ≤ 3072) (hR : Rel t g I) (hk : ∀ I1 J1 t1 g1, Rel t1 g1 I1 → pE l X mL_law 80 pK 1493 [some (.ref 2000000), some (.ref 0), some (.ref 67), some (.int (nI j))] [] pK I1 J1 (pR t1 g1) Q) : pE l X mL_law 80 pK 912 [some (.ref 2000000), some (.ref 0), some (.ref 67), some (.int (nI j))] [] pK I J (pR t g) Q := by
  have hin : ∀ k, k < X.1 → vp_in (nI k) X.1 := fun k hk => vp_in_nI hk (by omega)
  refine pE_aload_n dL_law_912 rfl rfl ?_
  refine pE_aload_n dL_law_913 rfl rfl ?_
  refine pE_iload_n dL_law_914 rfl rfl ?_
  refine pE_iconst (v := nI 1) dL_law_915 rfl ?_
  refine pE_iaddN dL_law_916 ?_
  refine pE_sload dL_law_917 (by exact hin _ (by omega)) ?_
  refine pE_aload_n dL_law_918 rfl rfl ?_
  refine pE_iload_n dL_law_919 rfl rfl ?_
  refine pE_iconst (v := nI 2) dL_law_920 rfl ?_
  refine pE_iaddN dL_law_921 ?_
  refine pE_sload dL_law_922 (by exact hin _ (by omega)) ?_
  refine pE_callV (d' := 3) (as := [_, _]) dL_law_923 lkL_124 (cwX11_stride _ _) ivX11_stride ⟨_, rfl, rfl⟩ (by first | assumption | rfl) rfl rfl (Nat.le_of_ble_eq_true rfl) (by decide) pKK ?_
  refine Z_stride hR (fun v I1 J1 t1 g1 z => ?_)
  refine pE_aload_n dL_law_926 rfl rfl ?_
  refine pE_aload_n dL_law_927 rfl rfl ?_
  refine pE_iload_n dL_law_928 rfl rfl ?_
  refine pE_iconst (v := nI 1) dL_law_929 rfl ?_
  refine pE_iaddN dL_law_930 ?_
  refine pE_sload dL_law_931 (by exact hin _ (by omega)) ?_
  refine pE_aload_n dL_law_932 rfl rfl ?_
  refine pE_iload_n dL_law_933 rfl rfl ?_
  refine pE_iconst (v := nI 2) dL_law_934 rfl ?_
  refine pE_iaddN dL_law_935 ?_
  refine pE_sload dL_law_936 (by exact hin _ (by omega)) ?_
  refine pE_callV (d' := 4) (as := [_, _]) dL_law_937 lkL_127 (cwX12_stride _ _) ivX12_stride ⟨_, rfl, rfl⟩ (by first | assumption | rfl) rfl rfl (Nat.le_of_ble_eq_true rfl) (by decide) pKK ?_
  refine z _ (fun I2 J2 hR2 => ?_)
  refine pE_icmp_eq (tgt := 1493) dL_law_940 (by decide) (fun h940 => ?_) (fun h940 => ?_)
  · exact hk _ _ _ _ hR2
  · exact absurd rfl h940
set_option maxHeartbeats 400000 in
set_option maxRecDepth 100000 in
theorem LC_proxy {l : Launch} {X : pX} {t g j : Nat} {I : pHI} {J : pHJ} {Q : pQ} (hj : j + 6 ≤ X.1) (hX : X.1 ≤ 3072) (hR : Rel t g I) (hk : ∀ I1 J1 t1 g1, Rel t1 g1 I1 → pE l X mL_law 80 pK 1493 [some (.ref 2000000), some (.ref 0), some (.ref 67), some (.int (nI j))] [] pK I1 J1 (pR t1 g1) Q) : pE l X mL_law 80 pK 945 [some (.ref 2000000), some (.ref 0), some (.ref 67), some (.int (nI j))] [] pK I J (pR t g) Q := by
  have hin : ∀ k, k < X.1 → vp_in (nI k) X.1 := fun k hk => vp_in_nI hk (by omega)
  refine pE_aload_n dL_law_945 rfl rfl ?_
  refine pE_callV (d' := 5) (as := []) dL_law_946 lkL_128 (cwX11_proxy _ _) ivX11_proxy ⟨_, rfl, rfl⟩ (by first | assumption | rfl) rfl rfl (Nat.le_of_ble_eq_true rfl) (by decide) pKK ?_
  refine Z_proxy hR (fun v I1 J1 t1 g1 z => ?_)
  refine pE_aload_n dL_law_949 rfl rfl ?_
  refine pE_callV (d' := 6) (as := []) dL_law_950 lkL_131 (cwX12_proxy _ _) ivX12_proxy ⟨_, rfl, rfl⟩ (by first | assumption | rfl) rfl rfl (Nat.le_of_ble_eq_true rfl) (by decide) pKK ?_
  refine z _ (fun I2 J2 hR2 => ?_)
  refine pE_icmp_eq (tgt := 1493) dL_law_953 (by decide) (fun h953 => ?_) (fun h953 => ?_)
  · exact hk _ _ _ _ hR2
  · exact absurd rfl h953
set_option maxHeartbeats 400000 in
set_option maxRecDepth 100000 in
theorem LC_toil {l : Launch} {X : pX} {t g j : Nat} {I : pHI} {J : pHJ} {Q : pQ} (hj : j + 6 ≤ X.1) (hX : X.1 ≤ 3072) (hR : Rel t g I) (hk : ∀ I1 J1 t1 g1, Rel t1 g1 I1 → pE l X mL_law 80 pK 1493 [some (.ref 2000000), some (.ref 0), some (.ref 67), some (.int (nI j))] [] pK I1 J1 (pR t1 g1) Q) : pE l X mL_law 80 pK 958 [some (.ref 2000000), some (.ref 0), some (.ref 67), some (.int (nI j))] [] pK I J (pR t g) Q := by
  have hin : ∀ k, k < X.1 → vp_in (nI k) X.1 := fun k hk => vp_in_nI hk (by omega)
  refine pE_aload_n dL_law_958 rfl rfl ?_
  refine pE_callV (d' := 5) (as := []) dL_law_959 lkL_132 (cwX11_toil _ _) ivX11_toil ⟨_, rfl, rfl⟩ (by first | assumption | rfl) rfl rfl (Nat.le_of_ble_eq_true rfl) (by decide) pKK ?_
  refine Z_toil hR (fun v I1 J1 t1 g1 z => ?_)
  refine pE_aload_n dL_law_962 rfl rfl ?_
  refine pE_callV (d' := 6) (as := []) dL_law_963 lkL_135 (cwX12_toil _ _) ivX12_toil ⟨_, rfl, rfl⟩ (by first | assumption | rfl) rfl rfl (Nat.le_of_ble_eq_true rfl) (by decide) pKK ?_
  refine z _ (fun I2 J2 hR2 => ?_)
  refine pE_icmp_eq (tgt := 1493) dL_law_966 (by decide) (fun h966 => ?_) (fun h966 => ?_)
  · exact hk _ _ _ _ hR2
  · exact absurd rfl h966
set_option maxHeartbeats 400000 in
set_option maxRecDepth 100000 in
theorem LC_settle {l : Launch} {X : pX} {t g j : Nat} {I : pHI} {J : pHJ} {Q : pQ} (hj : j + 6 ≤ X.1) (hX : X.1 ≤ 3072) (hR : Rel t g I) (hk : ∀ I1 J1 t1 g1, Rel t1 g1 I1 → pE l X mL_law 80 pK 1493 [some (.ref 2000000), some (.ref 0), some (.ref 67), some (.int (nI j))] [] pK I1 J1 (pR t1 g1) Q) : pE l X mL_law 80 pK 971 [some (.ref 2000000), some (.ref 0), some (.ref 67), some (.int (nI j))] [] pK I J (pR t g) Q := by
  have hin : ∀ k, k < X.1 → vp_in (nI k) X.1 := fun k hk => vp_in_nI hk (by omega)
  refine pE_aload_n dL_law_971 rfl rfl ?_
  refine pE_aload_n dL_law_972 rfl rfl ?_
  refine pE_iload_n dL_law_973 rfl rfl ?_
  refine pE_iconst (v := nI 1) dL_law_974 rfl ?_
  refine pE_iaddN dL_law_975 ?_
  refine pE_sload dL_law_976 (by exact hin _ (by omega)) ?_
  refine pE_aload_n dL_law_977 rfl rfl ?_
  refine pE_iload_n dL_law_978 rfl rfl ?_
  refine pE_iconst (v := nI 2) dL_law_979 rfl ?_
  refine pE_iaddN dL_law_980 ?_
  refine pE_sload dL_law_981 (by exact hin _ (by omega)) ?_
  refine pE_callV (d' := 5) (as := [_, _]) dL_law_982 lkL_136 (cwX11_settle _ _) ivX11_settle ⟨_, rfl, rfl⟩ (by first | assumption | rfl) rfl rfl (Nat.le_of_ble_eq_true rfl) (by decide) pKK ?_
  refine Z_settle hR (fun v I1 J1 t1 g1 z => ?_)
  refine pE_aload_n dL_law_985 rfl rfl ?_
  refine pE_aload_n dL_law_986 rfl rfl ?_
  refine pE_iload_n dL_law_987 rfl rfl ?_
  refine pE_iconst (v := nI 1) dL_law_988 rfl ?_
  refine pE_iaddN dL_law_989 ?_
  refine pE_sload dL_law_990 (by exact hin _ (by omega)) ?_
  refine pE_aload_n dL_law_991 rfl rfl ?_
  refine pE_iload_n dL_law_992 rfl rfl ?_
  refine pE_iconst (v := nI 2) dL_law_993 rfl ?_
  refine pE_iaddN dL_law_994 ?_
  refine pE_sload dL_law_995 (by exact hin _ (by omega)) ?_
  refine pE_callV (d' := 5) (as := [_, _]) dL_law_996 lkL_139 (cwX12_settle _ _) ivX12_settle ⟨_, rfl, rfl⟩ (by first | assumption | rfl) rfl rfl (Nat.le_of_ble_eq_true rfl) (by decide) pKK ?_
  refine z _ (fun I2 J2 hR2 => ?_)
  refine pE_icmp_eq (tgt := 1493) dL_law_999 (by decide) (fun h999 => ?_) (fun h999 => ?_)
  · exact hk _ _ _ _ hR2
  · exact absurd rfl h999
set_option maxHeartbeats 400000 in
set_option maxRecDepth 100000 in
theorem LC_hover {l : Launch} {X : pX} {t g j : Nat} {I : pHI} {J : pHJ} {Q : pQ} (hj : j + 6 ≤ X.1) (hX : X.1 ≤ 3072) (hR : Rel t g I) (hk : ∀ I1 J1 t1 g1, Rel t1 g1 I1 → pE l X mL_law 80 pK 1493 [some (.ref 2000000), some (.ref 0), some (.ref 67), some (.int (nI j))] [] pK I1 J1 (pR t1 g1) Q) : pE l X mL_law 80 pK 1004 [some (.ref 2000000), some (.ref 0), some (.ref 67), some (.int (nI j))] [] pK I J (pR t g) Q := by
  have hin : ∀ k, k < X.1 → vp_in (nI k) X.1 := fun k hk => vp_in_nI hk (by omega)
  refine pE_aload_n dL_law_1004 rfl rfl ?_
  refine pE_aload_n dL_law_1005 rfl rfl ?_
  refine pE_iload_n dL_law_1006 rfl rfl ?_
  refine pE_iconst (v := nI 1) dL_law_1007 rfl ?_
  refine pE_iaddN dL_law_1008 ?_
  refine pE_sload dL_law_1009 (by exact hin _ (by omega)) ?_
  refine pE_callV (d' := 5) (as := [_]) dL_law_1010 lkL_140 (cwX11_hover _ _) ivX11_hover ⟨_, rfl, rfl⟩ (by first | assumption | rfl) rfl rfl (Nat.le_of_ble_eq_true rfl) (by decide) pKK ?_
  refine Z_hover hR (fun v I1 J1 t1 g1 z => ?_)
  refine pE_aload_n dL_law_1013 rfl rfl ?_
  refine pE_aload_n dL_law_1014 rfl rfl ?_
  refine pE_iload_n dL_law_1015 rfl rfl ?_
  refine pE_iconst (v := nI 1) dL_law_1016 rfl ?_
  refine pE_iaddN dL_law_1017 ?_
  refine pE_sload dL_law_1018 (by exact hin _ (by omega)) ?_
  refine pE_callV (d' := 5) (as := [_]) dL_law_1019 lkL_143 (cwX12_hover _ _) ivX12_hover ⟨_, rfl, rfl⟩ (by first | assumption | rfl) rfl rfl (Nat.le_of_ble_eq_true rfl) (by decide) pKK ?_
  refine z _ (fun I2 J2 hR2 => ?_)
  refine pE_icmp_eq (tgt := 1493) dL_law_1022 (by decide) (fun h1022 => ?_) (fun h1022 => ?_)
  · exact hk _ _ _ _ hR2
  · exact absurd rfl h1022
set_option maxHeartbeats 400000 in
set_option maxRecDepth 100000 in
theorem LC_ruin {l : Launch} {X : pX} {t g j : Nat} {I : pHI} {J : pHJ} {Q : pQ} (hj : j + 6 ≤ X.1) (hX : X.1 ≤ 3072) (hR : Rel t g I) (hk : ∀ I1 J1 t1 g1, Rel t1 g1 I1 → pE l X mL_law 80 pK 1493 [some (.ref 2000000), some (.ref 0), some (.ref 67), some (.int (nI j))] [] pK I1 J1 (pR t1 g1) Q) : pE l X mL_law 80 pK 1027 [some (.ref 2000000), some (.ref 0), some (.ref 67), some (.int (nI j))] [] pK I J (pR t g) Q := by
  have hin : ∀ k, k < X.1 → vp_in (nI k) X.1 := fun k hk => vp_in_nI hk (by omega)
  refine pE_aload_n dL_law_1027 rfl rfl ?_
  refine pE_aload_n dL_law_1028 rfl rfl ?_
  refine pE_iload_n dL_law_1029 rfl rfl ?_
  refine pE_iconst (v := nI 1) dL_law_1030 rfl ?_
  refine pE_iaddN dL_law_1031 ?_
  refine pE_sload dL_law_1032 (by exact hin _ (by omega)) ?_
  refine pE_callV (d' := 6) (as := [_]) dL_law_1033 lkL_144 (cwX11_ruin _ _) ivX11_ruin ⟨_, rfl, rfl⟩ (by first | assumption | rfl) rfl rfl (Nat.le_of_ble_eq_true rfl) (by decide) pKK ?_
  refine Z_ruin hR (fun v I1 J1 t1 g1 z => ?_)
  refine pE_aload_n dL_law_1036 rfl rfl ?_
  refine pE_aload_n dL_law_1037 rfl rfl ?_
  refine pE_iload_n dL_law_1038 rfl rfl ?_
  refine pE_iconst (v := nI 1) dL_law_1039 rfl ?_
  refine pE_iaddN dL_law_1040 ?_
  refine pE_sload dL_law_1041 (by exact hin _ (by omega)) ?_
  refine pE_callV (d' := 6) (as := [_]) dL_law_1042 lkL_147 (cwX12_ruin _ _) ivX12_ruin ⟨_, rfl, rfl⟩ (by first | assumption | rfl) rfl rfl (Nat.le_of_ble_eq_true rfl) (by decide) pKK ?_
  refine z _ (fun I2 J2 hR2 => ?_)
  refine pE_icmp_eq (tgt := 1493) dL_law_1045 (by decide) (fun h1045 => ?_) (fun h1045 => ?_)
  · exact hk _ _ _ _ hR2
  · exact absurd rfl h1045
set_option maxHeartbeats 400000 in
set_option maxRecDepth 100000 in
theorem LC_team {l : Launch} {X : pX} {t g j : Nat} {I : pHI} {J : pHJ} {Q : pQ} (hj : j + 6 ≤ X.1) (hX : X.1 ≤ 3072) (hR : Rel t g I) (hk : ∀ I1 J1 t1 g1, Rel t1 g1 I1 → pE l X mL_law 80 pK 1493 [some (.ref 2000000), some (.ref 0), some (.ref 67), some (.int (nI j))] [] pK I1 J1 (pR t1 g1) Q) : pE l X mL_law 80 pK 1050 [some (.ref 2000000), some (.ref 0), some (.ref 67), some (.int (nI j))] [] pK I J (pR t g) Q := by
  have hin : ∀ k, k < X.1 → vp_in (nI k) X.1 := fun k hk => vp_in_nI hk (by omega)
  refine pE_aload_n dL_law_1050 rfl rfl ?_
  refine pE_aload_n dL_law_1051 rfl rfl ?_
  refine pE_iload_n dL_law_1052 rfl rfl ?_
  refine pE_iconst (v := nI 1) dL_law_1053 rfl ?_
  refine pE_iaddN dL_law_1054 ?_
  refine pE_sload dL_law_1055 (by exact hin _ (by omega)) ?_
  refine pE_aload_n dL_law_1056 rfl rfl ?_
  refine pE_iload_n dL_law_1057 rfl rfl ?_
  refine pE_iconst (v := nI 2) dL_law_1058 rfl ?_
  refine pE_iaddN dL_law_1059 ?_
  refine pE_sload dL_law_1060 (by exact hin _ (by omega)) ?_
  refine pE_callV (d' := 1) (as := [_, _]) dL_law_1061 lkL_148 (cwX11_team _ _) ivX11_team ⟨_, rfl, rfl⟩ (by first | assumption | rfl) rfl rfl (Nat.le_of_ble_eq_true rfl) (by decide) pKK ?_
  refine Z_team hR (fun v I1 J1 t1 g1 z => ?_)
  refine pE_aload_n dL_law_1064 rfl rfl ?_
  refine pE_aload_n dL_law_1065 rfl rfl ?_
  refine pE_iload_n dL_law_1066 rfl rfl ?_
  refine pE_iconst (v := nI 1) dL_law_1067 rfl ?_
  refine pE_iaddN dL_law_1068 ?_
  refine pE_sload dL_law_1069 (by exact hin _ (by omega)) ?_
  refine pE_aload_n dL_law_1070 rfl rfl ?_
  refine pE_iload_n dL_law_1071 rfl rfl ?_
  refine pE_iconst (v := nI 2) dL_law_1072 rfl ?_
  refine pE_iaddN dL_law_1073 ?_
  refine pE_sload dL_law_1074 (by exact hin _ (by omega)) ?_
  refine pE_callV (d' := 1) (as := [_, _]) dL_law_1075 lkL_151 (cwX12_team _ _) ivX12_team ⟨_, rfl, rfl⟩ (by first | assumption | rfl) rfl rfl (Nat.le_of_ble_eq_true rfl) (by decide) pKK ?_
  refine z _ (fun I2 J2 hR2 => ?_)
  refine pE_icmp_eq (tgt := 1493) dL_law_1078 (by decide) (fun h1078 => ?_) (fun h1078 => ?_)
  · exact hk _ _ _ _ hR2
  · exact absurd rfl h1078
set_option maxHeartbeats 400000 in
set_option maxRecDepth 100000 in
theorem LC_quarrel {l : Launch} {X : pX} {t g j : Nat} {I : pHI} {J : pHJ} {Q : pQ} (hj : j + 6 ≤ X.1) (hX : X.1 ≤ 3072) (hR : Rel t g I) (hk : ∀ I1 J1 t1 g1, Rel t1 g1 I1 → pE l X mL_law 80 pK 1493 [some (.ref 2000000), some (.ref 0), some (.ref 67), some (.int (nI j))] [] pK I1 J1 (pR t1 g1) Q) : pE l X mL_law 80 pK 1083 [some (.ref 2000000), some (.ref 0), some (.ref 67), some (.int (nI j))] [] pK I J (pR t g) Q := by
  have hin : ∀ k, k < X.1 → vp_in (nI k) X.1 := fun k hk => vp_in_nI hk (by omega)
  refine pE_aload_n dL_law_1083 rfl rfl ?_
  refine pE_callV (d' := 3) (as := []) dL_law_1084 lkL_152 (cwX11_quarrel _ _) ivX11_quarrel ⟨_, rfl, rfl⟩ (by first | assumption | rfl) rfl rfl (Nat.le_of_ble_eq_true rfl) (by decide) pKK ?_
  refine Z_quarrel hR (fun v I1 J1 t1 g1 z => ?_)
  refine pE_aload_n dL_law_1087 rfl rfl ?_
  refine pE_callV (d' := 2) (as := []) dL_law_1088 lkL_155 (cwX12_quarrel _ _) ivX12_quarrel ⟨_, rfl, rfl⟩ (by first | assumption | rfl) rfl rfl (Nat.le_of_ble_eq_true rfl) (by decide) pKK ?_
  refine z _ (fun I2 J2 hR2 => ?_)
  refine pE_icmp_eq (tgt := 1493) dL_law_1091 (by decide) (fun h1091 => ?_) (fun h1091 => ?_)
  · exact hk _ _ _ _ hR2
  · exact absurd rfl h1091
set_option maxHeartbeats 400000 in
set_option maxRecDepth 100000 in
theorem LC_calm {l : Launch} {X : pX} {t g j : Nat} {I : pHI} {J : pHJ} {Q : pQ} (hj : j + 6 ≤ X.1) (hX : X.1 ≤ 3072) (hR : Rel t g I) (hk : ∀ I1 J1 t1 g1, Rel t1 g1 I1 → pE l X mL_law 80 pK 1493 [some (.ref 2000000), some (.ref 0), some (.ref 67), some (.int (nI j))] [] pK I1 J1 (pR t1 g1) Q) : pE l X mL_law 80 pK 1096 [some (.ref 2000000), some (.ref 0), some (.ref 67), some (.int (nI j))] [] pK I J (pR t g) Q := by
  have hin : ∀ k, k < X.1 → vp_in (nI k) X.1 := fun k hk => vp_in_nI hk (by omega)
  refine pE_aload_n dL_law_1096 rfl rfl ?_
  refine pE_aload_n dL_law_1097 rfl rfl ?_
  refine pE_iload_n dL_law_1098 rfl rfl ?_
  refine pE_iconst (v := nI 1) dL_law_1099 rfl ?_
  refine pE_iaddN dL_law_1100 ?_
  refine pE_sload dL_law_1101 (by exact hin _ (by omega)) ?_
  refine pE_callV (d' := 3) (as := [_]) dL_law_1102 lkL_156 (cwX11_calm _ _) ivX11_calm ⟨_, rfl, rfl⟩ (by first | assumption | rfl) rfl rfl (Nat.le_of_ble_eq_true rfl) (by decide) pKK ?_
  refine Z_calm hR (fun v I1 J1 t1 g1 z => ?_)
  refine pE_aload_n dL_law_1105 rfl rfl ?_
  refine pE_aload_n dL_law_1106 rfl rfl ?_
  refine pE_iload_n dL_law_1107 rfl rfl ?_
  refine pE_iconst (v := nI 1) dL_law_1108 rfl ?_
  refine pE_iaddN dL_law_1109 ?_
  refine pE_sload dL_law_1110 (by exact hin _ (by omega)) ?_
  refine pE_callV (d' := 3) (as := [_]) dL_law_1111 lkL_159 (cwX12_calm _ _) ivX12_calm ⟨_, rfl, rfl⟩ (by first | assumption | rfl) rfl rfl (Nat.le_of_ble_eq_true rfl) (by decide) pKK ?_
  refine z _ (fun I2 J2 hR2 => ?_)
  refine pE_icmp_eq (tgt := 1493) dL_law_1114 (by decide) (fun h1114 => ?_) (fun h1114 => ?_)
  · exact hk _ _ _ _ hR2
  · exact absurd rfl h1114
set_option maxHeartbeats 400000 in
set_option maxRecDepth 100000 in
theorem LC_ladder {l : Launch} {X : pX} {t g j : Nat} {I : pHI} {J : pHJ} {Q : pQ} (hj : j + 6 ≤ X.1) (hX : X.1 ≤ 3072) (hR : Rel t g I) (hk : ∀ I1 J1 t1 g1, Rel t1 g1 I1 → pE l X mL_law 80 pK 1493 [some (.ref 2000000), some (.ref 0), some (.ref 67), some (.int (nI j))] [] pK I1 J1 (pR t1 g1) Q) : pE l X mL_law 80 pK 1119 [some (.ref 2000000), some (.ref 0), some (.ref 67), some (.int (nI j))] [] pK I J (pR t g) Q := by
  have hin : ∀ k, k < X.1 → vp_in (nI k) X.1 := fun k hk => vp_in_nI hk (by omega)
  refine pE_aload_n dL_law_1119 rfl rfl ?_
  refine pE_aload_n dL_law_1120 rfl rfl ?_
  refine pE_iload_n dL_law_1121 rfl rfl ?_
  refine pE_iconst (v := nI 1) dL_law_1122 rfl ?_
  refine pE_iaddN dL_law_1123 ?_
  refine pE_sload dL_law_1124 (by exact hin _ (by omega)) ?_
  refine pE_callV (d' := 5) (as := [_]) dL_law_1125 lkL_160 (cwX11_ladder _ _) ivX11_ladder ⟨_, rfl, rfl⟩ (by first | assumption | rfl) rfl rfl (Nat.le_of_ble_eq_true rfl) (by decide) pKK ?_
  refine Z_ladder hR (fun v I1 J1 t1 g1 z => ?_)
  refine pE_aload_n dL_law_1128 rfl rfl ?_
  refine pE_aload_n dL_law_1129 rfl rfl ?_
  refine pE_iload_n dL_law_1130 rfl rfl ?_
  refine pE_iconst (v := nI 1) dL_law_1131 rfl ?_
  refine pE_iaddN dL_law_1132 ?_
  refine pE_sload dL_law_1133 (by exact hin _ (by omega)) ?_
  refine pE_callV (d' := 4) (as := [_]) dL_law_1134 lkL_163 (cwX12_ladder _ _) ivX12_ladder ⟨_, rfl, rfl⟩ (by first | assumption | rfl) rfl rfl (Nat.le_of_ble_eq_true rfl) (by decide) pKK ?_
  refine z _ (fun I2 J2 hR2 => ?_)
  refine pE_icmp_eq (tgt := 1493) dL_law_1137 (by decide) (fun h1137 => ?_) (fun h1137 => ?_)
  · exact hk _ _ _ _ hR2
  · exact absurd rfl h1137
set_option maxHeartbeats 400000 in
set_option maxRecDepth 100000 in
theorem LC_spread {l : Launch} {X : pX} {t g j : Nat} {I : pHI} {J : pHJ} {Q : pQ} (hj : j + 6 ≤ X.1) (hX : X.1 ≤ 3072) (hR : Rel t g I) (hk : ∀ I1 J1 t1 g1, Rel t1 g1 I1 → pE l X mL_law 80 pK 1493 [some (.ref 2000000), some (.ref 0), some (.ref 67), some (.int (nI j))] [] pK I1 J1 (pR t1 g1) Q) : pE l X mL_law 80 pK 1142 [some (.ref 2000000), some (.ref 0), some (.ref 67), some (.int (nI j))] [] pK I J (pR t g) Q := by
  have hin : ∀ k, k < X.1 → vp_in (nI k) X.1 := fun k hk => vp_in_nI hk (by omega)
  refine pE_aload_n dL_law_1142 rfl rfl ?_
  refine pE_callV (d' := 1) (as := []) dL_law_1143 lkL_164 (cwX11_spread _ _) ivX11_spread ⟨_, rfl, rfl⟩ (by first | assumption | rfl) rfl rfl (Nat.le_of_ble_eq_true rfl) (by decide) pKK ?_
  refine Z_spread hR (fun v I1 J1 t1 g1 z => ?_)
  refine pE_aload_n dL_law_1146 rfl rfl ?_
  refine pE_callV (d' := 2) (as := []) dL_law_1147 lkL_167 (cwX12_spread _ _) ivX12_spread ⟨_, rfl, rfl⟩ (by first | assumption | rfl) rfl rfl (Nat.le_of_ble_eq_true rfl) (by decide) pKK ?_
  refine z _ (fun I2 J2 hR2 => ?_)
  refine pE_icmp_eq (tgt := 1493) dL_law_1150 (by decide) (fun h1150 => ?_) (fun h1150 => ?_)
  · exact hk _ _ _ _ hR2
  · exact absurd rfl h1150
set_option maxHeartbeats 400000 in
set_option maxRecDepth 100000 in
theorem LC_live {l : Launch} {X : pX} {t g j : Nat} {I : pHI} {J : pHJ} {Q : pQ} (hj : j + 6 ≤ X.1) (hX : X.1 ≤ 3072) (hR : Rel t g I) (hk : ∀ I1 J1 t1 g1, Rel t1 g1 I1 → pE l X mL_law 80 pK 1493 [some (.ref 2000000), some (.ref 0), some (.ref 67), some (.int (nI j))] [] pK I1 J1 (pR t1 g1) Q) : pE l X mL_law 80 pK 1155 [some (.ref 2000000), some (.ref 0), some (.ref 67), some (.int (nI j))] [] pK I J (pR t g) Q := by
  have hin : ∀ k, k < X.1 → vp_in (nI k) X.1 := fun k hk => vp_in_nI hk (by omega)
  refine pE_aload_n dL_law_1155 rfl rfl ?_
  refine pE_aload_n dL_law_1156 rfl rfl ?_
  refine pE_iload_n dL_law_1157 rfl rfl ?_
  refine pE_iconst (v := nI 1) dL_law_1158 rfl ?_
  refine pE_iaddN dL_law_1159 ?_
  refine pE_sload dL_law_1160 (by exact hin _ (by omega)) ?_
  refine pE_callV (d' := 1) (as := [_]) dL_law_1161 lkL_168 (cwX11_live _ _) ivX11_live ⟨_, rfl, rfl⟩ (by first | assumption | rfl) rfl rfl (Nat.le_of_ble_eq_true rfl) (by decide) pKK ?_
  refine Z_live hR (fun v I1 J1 t1 g1 z => ?_)
  refine pE_aload_n dL_law_1164 rfl rfl ?_
  refine pE_aload_n dL_law_1165 rfl rfl ?_
  refine pE_iload_n dL_law_1166 rfl rfl ?_
  refine pE_iconst (v := nI 1) dL_law_1167 rfl ?_
  refine pE_iaddN dL_law_1168 ?_
  refine pE_sload dL_law_1169 (by exact hin _ (by omega)) ?_
  refine pE_callV (d' := 1) (as := [_]) dL_law_1170 lkL_171 (cwX12_live _ _) ivX12_live ⟨_, rfl, rfl⟩ (by first | assumption | rfl) rfl rfl (Nat.le_of_ble_eq_true rfl) (by decide) pKK ?_
  refine z _ (fun I2 J2 hR2 => ?_)
  refine pE_icmp_eq (tgt := 1493) dL_law_1173 (by decide) (fun h1173 => ?_) (fun h1173 => ?_)
  · exact hk _ _ _ _ hR2
  · exact absurd rfl h1173
set_option maxHeartbeats 400000 in
set_option maxRecDepth 100000 in
theorem LC_lies {l : Launch} {X : pX} {t g j : Nat} {I : pHI} {J : pHJ} {Q : pQ} (hj : j + 6 ≤ X.1) (hX : X.1 ≤ 3072) (hR : Rel t g I) (hk : ∀ I1 J1 t1 g1, Rel t1 g1 I1 → pE l X mL_law 80 pK 1493 [some (.ref 2000000), some (.ref 0), some (.ref 67), some (.int (nI j))] [] pK I1 J1 (pR t1 g1) Q) : pE l X mL_law 80 pK 1178 [some (.ref 2000000), some (.ref 0), some (.ref 67), some (.int (nI j))] [] pK I J (pR t g) Q := by
  have hin : ∀ k, k < X.1 → vp_in (nI k) X.1 := fun k hk => vp_in_nI hk (by omega)
  refine pE_aload_n dL_law_1178 rfl rfl ?_
  refine pE_aload_n dL_law_1179 rfl rfl ?_
  refine pE_iload_n dL_law_1180 rfl rfl ?_
  refine pE_iconst (v := nI 1) dL_law_1181 rfl ?_
  refine pE_iaddN dL_law_1182 ?_
  refine pE_sload dL_law_1183 (by exact hin _ (by omega)) ?_
  refine pE_callV (d' := 1) (as := [_]) dL_law_1184 lkL_172 (cwX11_lies _ _) ivX11_lies ⟨_, rfl, rfl⟩ (by first | assumption | rfl) rfl rfl (Nat.le_of_ble_eq_true rfl) (by decide) pKK ?_
  refine Z_lies hR (fun v I1 J1 t1 g1 z => ?_)
  refine pE_aload_n dL_law_1187 rfl rfl ?_
  refine pE_aload_n dL_law_1188 rfl rfl ?_
  refine pE_iload_n dL_law_1189 rfl rfl ?_
  refine pE_iconst (v := nI 1) dL_law_1190 rfl ?_
  refine pE_iaddN dL_law_1191 ?_
  refine pE_sload dL_law_1192 (by exact hin _ (by omega)) ?_
  refine pE_callV (d' := 1) (as := [_]) dL_law_1193 lkL_175 (cwX12_lies _ _) ivX12_lies ⟨_, rfl, rfl⟩ (by first | assumption | rfl) rfl rfl (Nat.le_of_ble_eq_true rfl) (by decide) pKK ?_
  refine z _ (fun I2 J2 hR2 => ?_)
  refine pE_icmp_eq (tgt := 1493) dL_law_1196 (by decide) (fun h1196 => ?_) (fun h1196 => ?_)
  · exact hk _ _ _ _ hR2
  · exact absurd rfl h1196
set_option maxHeartbeats 400000 in
set_option maxRecDepth 100000 in
theorem LC_chalk {l : Launch} {X : pX} {t g j : Nat} {I : pHI} {J : pHJ} {Q : pQ} (hj : j + 6 ≤ X.1) (hX : X.1 ≤ 3072) (hR : Rel t g I) (hk : ∀ I1 J1 t1 g1, Rel t1 g1 I1 → pE l X mL_law 80 pK 1493 [some (.ref 2000000), some (.ref 0), some (.ref 67), some (.int (nI j))] [] pK I1 J1 (pR t1 g1) Q) : pE l X mL_law 80 pK 1201 [some (.ref 2000000), some (.ref 0), some (.ref 67), some (.int (nI j))] [] pK I J (pR t g) Q := by
  have hin : ∀ k, k < X.1 → vp_in (nI k) X.1 := fun k hk => vp_in_nI hk (by omega)
  by_cases hb : X.2 (nI (j + 2)).toNatClampNeg = 0
  · refine pE_aload_n dL_law_1201 rfl rfl ?_
    refine pE_aload_n dL_law_1202 rfl rfl ?_
    refine pE_iload_n dL_law_1203 rfl rfl ?_
    refine pE_iconst (v := nI 1) dL_law_1204 rfl ?_
    refine pE_iaddN dL_law_1205 ?_
    refine pE_sload dL_law_1206 (by exact hin _ (by omega)) ?_
    refine pE_aload_n dL_law_1207 rfl rfl ?_
    refine pE_iload_n dL_law_1208 rfl rfl ?_
    refine pE_iconst (v := nI 2) dL_law_1209 rfl ?_
    refine pE_iaddN dL_law_1210 ?_
    refine pE_sload dL_law_1211 (by exact hin _ (by omega)) ?_
    refine pE_if_eq (tgt := 1219) dL_law_1212 (by decide) (fun h1212 => ?_) (fun h1212 => ?_)
    · refine pE_iconst (v := nI 0) dL_law_1219 rfl ?_
      refine pE_callV (d' := 1) (as := [_, _]) dL_law_1220 lkL_176 (cwX11_chalk _ _) ivX11_chalk ⟨_, rfl, rfl⟩ (by first | assumption | rfl) rfl rfl (Nat.le_of_ble_eq_true rfl) (by decide) pKK ?_
      refine Z_chalk hR (Or.inl nI_0) (fun v I1 J1 t1 g1 z => ?_)
      refine pE_aload_n dL_law_1223 rfl rfl ?_
      refine pE_aload_n dL_law_1224 rfl rfl ?_
      refine pE_iload_n dL_law_1225 rfl rfl ?_
      refine pE_iconst (v := nI 1) dL_law_1226 rfl ?_
      refine pE_iaddN dL_law_1227 ?_
      refine pE_sload dL_law_1228 (by exact hin _ (by omega)) ?_
      refine pE_aload_n dL_law_1229 rfl rfl ?_
      refine pE_iload_n dL_law_1230 rfl rfl ?_
      refine pE_iconst (v := nI 2) dL_law_1231 rfl ?_
      refine pE_iaddN dL_law_1232 ?_
      refine pE_sload dL_law_1233 (by exact hin _ (by omega)) ?_
      refine pE_if_eq (tgt := 1241) dL_law_1234 (by decide) (fun h1234 => ?_) (fun h1234 => ?_)
      · refine pE_iconst (v := nI 0) dL_law_1241 rfl ?_
        refine pE_callV (d' := 1) (as := [_, _]) dL_law_1242 lkL_180 (cwX12_chalk _ _) ivX12_chalk ⟨_, rfl, rfl⟩ (by first | assumption | rfl) rfl rfl (Nat.le_of_ble_eq_true rfl) (by decide) pKK ?_
        refine z _ (fun I2 J2 hR2 => ?_)
        refine pE_icmp_eq (tgt := 1493) dL_law_1245 (by decide) (fun h1245 => ?_) (fun h1245 => ?_)
        · exact hk _ _ _ _ hR2
        · exact absurd rfl h1245
      · exact absurd hb h1234
    · exact absurd hb h1212
  · refine pE_aload_n dL_law_1201 rfl rfl ?_
    refine pE_aload_n dL_law_1202 rfl rfl ?_
    refine pE_iload_n dL_law_1203 rfl rfl ?_
    refine pE_iconst (v := nI 1) dL_law_1204 rfl ?_
    refine pE_iaddN dL_law_1205 ?_
    refine pE_sload dL_law_1206 (by exact hin _ (by omega)) ?_
    refine pE_aload_n dL_law_1207 rfl rfl ?_
    refine pE_iload_n dL_law_1208 rfl rfl ?_
    refine pE_iconst (v := nI 2) dL_law_1209 rfl ?_
    refine pE_iaddN dL_law_1210 ?_
    refine pE_sload dL_law_1211 (by exact hin _ (by omega)) ?_
    refine pE_if_eq (tgt := 1219) dL_law_1212 (by decide) (fun h1212 => ?_) (fun h1212 => ?_)
    · exact absurd h1212 hb
    · refine pE_iconst (v := nI 1) dL_law_1215 rfl ?_
      refine pE_goto (tgt := 1220) dL_law_1216 (by decide) ?_
      refine pE_callV (d' := 1) (as := [_, _]) dL_law_1220 lkL_176 (cwX11_chalk _ _) ivX11_chalk ⟨_, rfl, rfl⟩ (by first | assumption | rfl) rfl rfl (Nat.le_of_ble_eq_true rfl) (by decide) pKK ?_
      refine Z_chalk hR (Or.inr nI_1') (fun v I1 J1 t1 g1 z => ?_)
      refine pE_aload_n dL_law_1223 rfl rfl ?_
      refine pE_aload_n dL_law_1224 rfl rfl ?_
      refine pE_iload_n dL_law_1225 rfl rfl ?_
      refine pE_iconst (v := nI 1) dL_law_1226 rfl ?_
      refine pE_iaddN dL_law_1227 ?_
      refine pE_sload dL_law_1228 (by exact hin _ (by omega)) ?_
      refine pE_aload_n dL_law_1229 rfl rfl ?_
      refine pE_iload_n dL_law_1230 rfl rfl ?_
      refine pE_iconst (v := nI 2) dL_law_1231 rfl ?_
      refine pE_iaddN dL_law_1232 ?_
      refine pE_sload dL_law_1233 (by exact hin _ (by omega)) ?_
      refine pE_if_eq (tgt := 1241) dL_law_1234 (by decide) (fun h1234 => ?_) (fun h1234 => ?_)
      · exact absurd h1234 hb
      · refine pE_iconst (v := nI 1) dL_law_1237 rfl ?_
        refine pE_goto (tgt := 1242) dL_law_1238 (by decide) ?_
        refine pE_callV (d' := 1) (as := [_, _]) dL_law_1242 lkL_180 (cwX12_chalk _ _) ivX12_chalk ⟨_, rfl, rfl⟩ (by first | assumption | rfl) rfl rfl (Nat.le_of_ble_eq_true rfl) (by decide) pKK ?_
        refine z _ (fun I2 J2 hR2 => ?_)
        refine pE_icmp_eq (tgt := 1493) dL_law_1245 (by decide) (fun h1245 => ?_) (fun h1245 => ?_)
        · exact hk _ _ _ _ hR2
        · exact absurd rfl h1245
set_option maxHeartbeats 400000 in
set_option maxRecDepth 100000 in
theorem LC_tread {l : Launch} {X : pX} {t g j : Nat} {I : pHI} {J : pHJ} {Q : pQ} (hj : j + 6 ≤ X.1) (hX : X.1 ≤ 3072) (hR : Rel t g I) (hk : ∀ I1 J1 t1 g1, Rel t1 g1 I1 → pE l X mL_law 80 pK 1493 [some (.ref 2000000), some (.ref 0), some (.ref 67), some (.int (nI j))] [] pK I1 J1 (pR t1 g1) Q) : pE l X mL_law 80 pK 1250 [some (.ref 2000000), some (.ref 0), some (.ref 67), some (.int (nI j))] [] pK I J (pR t g) Q := by
  have hin : ∀ k, k < X.1 → vp_in (nI k) X.1 := fun k hk => vp_in_nI hk (by omega)
  by_cases hb : X.2 (nI (j + 2)).toNatClampNeg = 0
  · refine pE_aload_n dL_law_1250 rfl rfl ?_
    refine pE_aload_n dL_law_1251 rfl rfl ?_
    refine pE_iload_n dL_law_1252 rfl rfl ?_
    refine pE_iconst (v := nI 1) dL_law_1253 rfl ?_
    refine pE_iaddN dL_law_1254 ?_
    refine pE_sload dL_law_1255 (by exact hin _ (by omega)) ?_
    refine pE_aload_n dL_law_1256 rfl rfl ?_
    refine pE_iload_n dL_law_1257 rfl rfl ?_
    refine pE_iconst (v := nI 2) dL_law_1258 rfl ?_
    refine pE_iaddN dL_law_1259 ?_
    refine pE_sload dL_law_1260 (by exact hin _ (by omega)) ?_
    refine pE_if_eq (tgt := 1268) dL_law_1261 (by decide) (fun h1261 => ?_) (fun h1261 => ?_)
    · refine pE_iconst (v := nI 0) dL_law_1268 rfl ?_
      refine pE_callV (d' := 1) (as := [_, _]) dL_law_1269 lkL_181 (cwX11_tread _ _) ivX11_tread ⟨_, rfl, rfl⟩ (by first | assumption | rfl) rfl rfl (Nat.le_of_ble_eq_true rfl) (by decide) pKK ?_
      refine Z_tread hR (Or.inl nI_0) (fun v I1 J1 t1 g1 z => ?_)
      refine pE_aload_n dL_law_1272 rfl rfl ?_
      refine pE_aload_n dL_law_1273 rfl rfl ?_
      refine pE_iload_n dL_law_1274 rfl rfl ?_
      refine pE_iconst (v := nI 1) dL_law_1275 rfl ?_
      refine pE_iaddN dL_law_1276 ?_
      refine pE_sload dL_law_1277 (by exact hin _ (by omega)) ?_
      refine pE_aload_n dL_law_1278 rfl rfl ?_
      refine pE_iload_n dL_law_1279 rfl rfl ?_
      refine pE_iconst (v := nI 2) dL_law_1280 rfl ?_
      refine pE_iaddN dL_law_1281 ?_
      refine pE_sload dL_law_1282 (by exact hin _ (by omega)) ?_
      refine pE_if_eq (tgt := 1290) dL_law_1283 (by decide) (fun h1283 => ?_) (fun h1283 => ?_)
      · refine pE_iconst (v := nI 0) dL_law_1290 rfl ?_
        refine pE_callV (d' := 1) (as := [_, _]) dL_law_1291 lkL_184 (cwX12_tread _ _) ivX12_tread ⟨_, rfl, rfl⟩ (by first | assumption | rfl) rfl rfl (Nat.le_of_ble_eq_true rfl) (by decide) pKK ?_
        refine z _ (fun I2 J2 hR2 => ?_)
        refine pE_icmp_eq (tgt := 1493) dL_law_1294 (by decide) (fun h1294 => ?_) (fun h1294 => ?_)
        · exact hk _ _ _ _ hR2
        · exact absurd rfl h1294
      · exact absurd hb h1283
    · exact absurd hb h1261
  · refine pE_aload_n dL_law_1250 rfl rfl ?_
    refine pE_aload_n dL_law_1251 rfl rfl ?_
    refine pE_iload_n dL_law_1252 rfl rfl ?_
    refine pE_iconst (v := nI 1) dL_law_1253 rfl ?_
    refine pE_iaddN dL_law_1254 ?_
    refine pE_sload dL_law_1255 (by exact hin _ (by omega)) ?_
    refine pE_aload_n dL_law_1256 rfl rfl ?_
    refine pE_iload_n dL_law_1257 rfl rfl ?_
    refine pE_iconst (v := nI 2) dL_law_1258 rfl ?_
    refine pE_iaddN dL_law_1259 ?_
    refine pE_sload dL_law_1260 (by exact hin _ (by omega)) ?_
    refine pE_if_eq (tgt := 1268) dL_law_1261 (by decide) (fun h1261 => ?_) (fun h1261 => ?_)
    · exact absurd h1261 hb
    · refine pE_iconst (v := nI 1) dL_law_1264 rfl ?_
      refine pE_goto (tgt := 1269) dL_law_1265 (by decide) ?_
      refine pE_callV (d' := 1) (as := [_, _]) dL_law_1269 lkL_181 (cwX11_tread _ _) ivX11_tread ⟨_, rfl, rfl⟩ (by first | assumption | rfl) rfl rfl (Nat.le_of_ble_eq_true rfl) (by decide) pKK ?_
      refine Z_tread hR (Or.inr nI_1') (fun v I1 J1 t1 g1 z => ?_)
      refine pE_aload_n dL_law_1272 rfl rfl ?_
      refine pE_aload_n dL_law_1273 rfl rfl ?_
      refine pE_iload_n dL_law_1274 rfl rfl ?_
      refine pE_iconst (v := nI 1) dL_law_1275 rfl ?_
      refine pE_iaddN dL_law_1276 ?_
      refine pE_sload dL_law_1277 (by exact hin _ (by omega)) ?_
      refine pE_aload_n dL_law_1278 rfl rfl ?_
      refine pE_iload_n dL_law_1279 rfl rfl ?_
      refine pE_iconst (v := nI 2) dL_law_1280 rfl ?_
      refine pE_iaddN dL_law_1281 ?_
      refine pE_sload dL_law_1282 (by exact hin _ (by omega)) ?_
      refine pE_if_eq (tgt := 1290) dL_law_1283 (by decide) (fun h1283 => ?_) (fun h1283 => ?_)
      · exact absurd h1283 hb
      · refine pE_iconst (v := nI 1) dL_law_1286 rfl ?_
        refine pE_goto (tgt := 1291) dL_law_1287 (by decide) ?_
        refine pE_callV (d' := 1) (as := [_, _]) dL_law_1291 lkL_184 (cwX12_tread _ _) ivX12_tread ⟨_, rfl, rfl⟩ (by first | assumption | rfl) rfl rfl (Nat.le_of_ble_eq_true rfl) (by decide) pKK ?_
        refine z _ (fun I2 J2 hR2 => ?_)
        refine pE_icmp_eq (tgt := 1493) dL_law_1294 (by decide) (fun h1294 => ?_) (fun h1294 => ?_)
        · exact hk _ _ _ _ hR2
        · exact absurd rfl h1294
set_option maxHeartbeats 400000 in
set_option maxRecDepth 100000 in
theorem LC_untell {l : Launch} {X : pX} {t g j : Nat} {I : pHI} {J : pHJ} {Q : pQ} (hj : j + 6 ≤ X.1) (hX : X.1 ≤ 3072) (hR : Rel t g I) (hk : ∀ I1 J1 t1 g1, Rel t1 g1 I1 → pE l X mL_law 80 pK 1493 [some (.ref 2000000), some (.ref 0), some (.ref 67), some (.int (nI j))] [] pK I1 J1 (pR t1 g1) Q) : pE l X mL_law 80 pK 1299 [some (.ref 2000000), some (.ref 0), some (.ref 67), some (.int (nI j))] [] pK I J (pR t g) Q := by
  have hin : ∀ k, k < X.1 → vp_in (nI k) X.1 := fun k hk => vp_in_nI hk (by omega)
  refine pE_aload_n dL_law_1299 rfl rfl ?_
  refine pE_aload_n dL_law_1300 rfl rfl ?_
  refine pE_iload_n dL_law_1301 rfl rfl ?_
  refine pE_iconst (v := nI 1) dL_law_1302 rfl ?_
  refine pE_iaddN dL_law_1303 ?_
  refine pE_sload dL_law_1304 (by exact hin _ (by omega)) ?_
  refine pE_callV (d' := 1) (as := [_]) dL_law_1305 lkL_185 (cwX11_untell _ _) ivX11_untell ⟨_, rfl, rfl⟩ (by first | assumption | rfl) rfl rfl (Nat.le_of_ble_eq_true rfl) (by decide) pKK ?_
  refine Z_untell hR (fun v I1 J1 t1 g1 z => ?_)
  refine pE_aload_n dL_law_1308 rfl rfl ?_
  refine pE_aload_n dL_law_1309 rfl rfl ?_
  refine pE_iload_n dL_law_1310 rfl rfl ?_
  refine pE_iconst (v := nI 1) dL_law_1311 rfl ?_
  refine pE_iaddN dL_law_1312 ?_
  refine pE_sload dL_law_1313 (by exact hin _ (by omega)) ?_
  refine pE_callV (d' := 1) (as := [_]) dL_law_1314 lkL_189 (cwX12_untell _ _) ivX12_untell ⟨_, rfl, rfl⟩ (by first | assumption | rfl) rfl rfl (Nat.le_of_ble_eq_true rfl) (by decide) pKK ?_
  refine z _ (fun I2 J2 hR2 => ?_)
  refine pE_icmp_eq (tgt := 1493) dL_law_1317 (by decide) (fun h1317 => ?_) (fun h1317 => ?_)
  · exact hk _ _ _ _ hR2
  · exact absurd rfl h1317
set_option maxHeartbeats 400000 in
set_option maxRecDepth 100000 in
theorem LC_later {l : Launch} {X : pX} {t g j : Nat} {I : pHI} {J : pHJ} {Q : pQ} (hj : j + 6 ≤ X.1) (hX : X.1 ≤ 3072) (hR : Rel t g I) (hk : ∀ I1 J1 t1 g1, Rel t1 g1 I1 → pE l X mL_law 80 pK 1493 [some (.ref 2000000), some (.ref 0), some (.ref 67), some (.int (nI j))] [] pK I1 J1 (pR t1 g1) Q) : pE l X mL_law 80 pK 1322 [some (.ref 2000000), some (.ref 0), some (.ref 67), some (.int (nI j))] [] pK I J (pR t g) Q := by
  have hin : ∀ k, k < X.1 → vp_in (nI k) X.1 := fun k hk => vp_in_nI hk (by omega)
  refine pE_aload_n dL_law_1322 rfl rfl ?_
  refine pE_aload_n dL_law_1323 rfl rfl ?_
  refine pE_iload_n dL_law_1324 rfl rfl ?_
  refine pE_iconst (v := nI 1) dL_law_1325 rfl ?_
  refine pE_iaddN dL_law_1326 ?_
  refine pE_sload dL_law_1327 (by exact hin _ (by omega)) ?_
  refine pE_callV (d' := 1) (as := [_]) dL_law_1328 lkL_190 (cwX11_later _ _) ivX11_later ⟨_, rfl, rfl⟩ (by first | assumption | rfl) rfl rfl (Nat.le_of_ble_eq_true rfl) (by decide) pKK ?_
  refine Z_later hR (fun v I1 J1 t1 g1 z => ?_)
  refine pE_aload_n dL_law_1331 rfl rfl ?_
  refine pE_aload_n dL_law_1332 rfl rfl ?_
  refine pE_iload_n dL_law_1333 rfl rfl ?_
  refine pE_iconst (v := nI 1) dL_law_1334 rfl ?_
  refine pE_iaddN dL_law_1335 ?_
  refine pE_sload dL_law_1336 (by exact hin _ (by omega)) ?_
  refine pE_callV (d' := 0) (as := [_]) dL_law_1337 lkL_193 (cwX12_later _ _) ivX12_later ⟨_, rfl, rfl⟩ (by first | assumption | rfl) rfl rfl (Nat.le_of_ble_eq_true rfl) (by decide) pKK ?_
  refine z _ (fun I2 J2 hR2 => ?_)
  refine pE_icmp_eq (tgt := 1493) dL_law_1340 (by decide) (fun h1340 => ?_) (fun h1340 => ?_)
  · exact hk _ _ _ _ hR2
  · exact absurd rfl h1340
set_option maxHeartbeats 400000 in
set_option maxRecDepth 100000 in
theorem LC_runs {l : Launch} {X : pX} {t g j : Nat} {I : pHI} {J : pHJ} {Q : pQ} (hj : j + 6 ≤ X.1) (hX : X.1 ≤ 3072) (hR : Rel t g I) (hk : ∀ I1 J1 t1 g1, Rel t1 g1 I1 → pE l X mL_law 80 pK 1493 [some (.ref 2000000), some (.ref 0), some (.ref 67), some (.int (nI j))] [] pK I1 J1 (pR t1 g1) Q) : pE l X mL_law 80 pK 1345 [some (.ref 2000000), some (.ref 0), some (.ref 67), some (.int (nI j))] [] pK I J (pR t g) Q := by
  have hin : ∀ k, k < X.1 → vp_in (nI k) X.1 := fun k hk => vp_in_nI hk (by omega)
  refine pE_aload_n dL_law_1345 rfl rfl ?_
  refine pE_aload_n dL_law_1346 rfl rfl ?_
  refine pE_iload_n dL_law_1347 rfl rfl ?_
  refine pE_iconst (v := nI 1) dL_law_1348 rfl ?_
  refine pE_iaddN dL_law_1349 ?_
  refine pE_sload dL_law_1350 (by exact hin _ (by omega)) ?_
  refine pE_callV (d' := 4) (as := [_]) dL_law_1351 lkL_194 (cwX11_runs _ _) ivX11_runs ⟨_, rfl, rfl⟩ (by first | assumption | rfl) rfl rfl (Nat.le_of_ble_eq_true rfl) (by decide) pKK ?_
  refine Z_runs hR (fun v I1 J1 t1 g1 z => ?_)
  refine pE_aload_n dL_law_1354 rfl rfl ?_
  refine pE_aload_n dL_law_1355 rfl rfl ?_
  refine pE_iload_n dL_law_1356 rfl rfl ?_
  refine pE_iconst (v := nI 1) dL_law_1357 rfl ?_
  refine pE_iaddN dL_law_1358 ?_
  refine pE_sload dL_law_1359 (by exact hin _ (by omega)) ?_
  refine pE_callV (d' := 3) (as := [_]) dL_law_1360 lkL_197 (cwX12_runs _ _) ivX12_runs ⟨_, rfl, rfl⟩ (by first | assumption | rfl) rfl rfl (Nat.le_of_ble_eq_true rfl) (by decide) pKK ?_
  refine z _ (fun I2 J2 hR2 => ?_)
  refine pE_icmp_eq (tgt := 1493) dL_law_1363 (by decide) (fun h1363 => ?_) (fun h1363 => ?_)
  · exact hk _ _ _ _ hR2
  · exact absurd rfl h1363
set_option maxHeartbeats 400000 in
set_option maxRecDepth 100000 in
theorem LC_who {l : Launch} {X : pX} {t g j : Nat} {I : pHI} {J : pHJ} {Q : pQ} (hj : j + 6 ≤ X.1) (hX : X.1 ≤ 3072) (hR : Rel t g I) (hk : ∀ I1 J1 t1 g1, Rel t1 g1 I1 → pE l X mL_law 80 pK 1493 [some (.ref 2000000), some (.ref 0), some (.ref 67), some (.int (nI j))] [] pK I1 J1 (pR t1 g1) Q) : pE l X mL_law 80 pK 1368 [some (.ref 2000000), some (.ref 0), some (.ref 67), some (.int (nI j))] [] pK I J (pR t g) Q := by
  have hin : ∀ k, k < X.1 → vp_in (nI k) X.1 := fun k hk => vp_in_nI hk (by omega)
  refine pE_aload_n dL_law_1368 rfl rfl ?_
  refine pE_aload_n dL_law_1369 rfl rfl ?_
  refine pE_iload_n dL_law_1370 rfl rfl ?_
  refine pE_iconst (v := nI 1) dL_law_1371 rfl ?_
  refine pE_iaddN dL_law_1372 ?_
  refine pE_sload dL_law_1373 (by exact hin _ (by omega)) ?_
  refine pE_callV (d' := 4) (as := [_]) dL_law_1374 lkL_198 (cwX11_who _ _) ivX11_who ⟨_, rfl, rfl⟩ (by first | assumption | rfl) rfl rfl (Nat.le_of_ble_eq_true rfl) (by decide) pKK ?_
  refine Z_who hR (fun v I1 J1 t1 g1 z => ?_)
  refine pE_aload_n dL_law_1377 rfl rfl ?_
  refine pE_aload_n dL_law_1378 rfl rfl ?_
  refine pE_iload_n dL_law_1379 rfl rfl ?_
  refine pE_iconst (v := nI 1) dL_law_1380 rfl ?_
  refine pE_iaddN dL_law_1381 ?_
  refine pE_sload dL_law_1382 (by exact hin _ (by omega)) ?_
  refine pE_callV (d' := 3) (as := [_]) dL_law_1383 lkL_201 (cwX12_who _ _) ivX12_who ⟨_, rfl, rfl⟩ (by first | assumption | rfl) rfl rfl (Nat.le_of_ble_eq_true rfl) (by decide) pKK ?_
  refine z _ (fun I2 J2 hR2 => ?_)
  refine pE_icmp_eq (tgt := 1493) dL_law_1386 (by decide) (fun h1386 => ?_) (fun h1386 => ?_)
  · exact hk _ _ _ _ hR2
  · exact absurd rfl h1386
set_option maxHeartbeats 400000 in
set_option maxRecDepth 100000 in
theorem LC_ask {l : Launch} {X : pX} {t g j : Nat} {I : pHI} {J : pHJ} {Q : pQ} (hj : j + 6 ≤ X.1) (hX : X.1 ≤ 3072) (hR : Rel t g I) (hk : ∀ I1 J1 t1 g1, Rel t1 g1 I1 → pE l X mL_law 80 pK 1493 [some (.ref 2000000), some (.ref 0), some (.ref 67), some (.int (nI j))] [] pK I1 J1 (pR t1 g1) Q) : pE l X mL_law 80 pK 1391 [some (.ref 2000000), some (.ref 0), some (.ref 67), some (.int (nI j))] [] pK I J (pR t g) Q := by
  have hin : ∀ k, k < X.1 → vp_in (nI k) X.1 := fun k hk => vp_in_nI hk (by omega)
  refine pE_aload_n dL_law_1391 rfl rfl ?_
  refine pE_aload_n dL_law_1392 rfl rfl ?_
  refine pE_iload_n dL_law_1393 rfl rfl ?_
  refine pE_iconst (v := nI 1) dL_law_1394 rfl ?_
  refine pE_iaddN dL_law_1395 ?_
  refine pE_sload dL_law_1396 (by exact hin _ (by omega)) ?_
  refine pE_aload_n dL_law_1397 rfl rfl ?_
  refine pE_iload_n dL_law_1398 rfl rfl ?_
  refine pE_iconst (v := nI 2) dL_law_1399 rfl ?_
  refine pE_iaddN dL_law_1400 ?_
  refine pE_sload dL_law_1401 (by exact hin _ (by omega)) ?_
  refine pE_callV (d' := 4) (as := [_, _]) dL_law_1402 lkL_202 (cwX11_ask _ _) ivX11_ask ⟨_, rfl, rfl⟩ (by first | assumption | rfl) rfl rfl (Nat.le_of_ble_eq_true rfl) (by decide) pKK ?_
  refine Z_ask hR (fun v I1 J1 t1 g1 z => ?_)
  refine pE_aload_n dL_law_1405 rfl rfl ?_
  refine pE_aload_n dL_law_1406 rfl rfl ?_
  refine pE_iload_n dL_law_1407 rfl rfl ?_
  refine pE_iconst (v := nI 1) dL_law_1408 rfl ?_
  refine pE_iaddN dL_law_1409 ?_
  refine pE_sload dL_law_1410 (by exact hin _ (by omega)) ?_
  refine pE_aload_n dL_law_1411 rfl rfl ?_
  refine pE_iload_n dL_law_1412 rfl rfl ?_
  refine pE_iconst (v := nI 2) dL_law_1413 rfl ?_
  refine pE_iaddN dL_law_1414 ?_
  refine pE_sload dL_law_1415 (by exact hin _ (by omega)) ?_
  refine pE_callV (d' := 3) (as := [_, _]) dL_law_1416 lkL_205 (cwX12_ask _ _) ivX12_ask ⟨_, rfl, rfl⟩ (by first | assumption | rfl) rfl rfl (Nat.le_of_ble_eq_true rfl) (by decide) pKK ?_
  refine z _ (fun I2 J2 hR2 => ?_)
  refine pE_icmp_eq (tgt := 1493) dL_law_1419 (by decide) (fun h1419 => ?_) (fun h1419 => ?_)
  · exact hk _ _ _ _ hR2
  · exact absurd rfl h1419
set_option maxHeartbeats 400000 in
set_option maxRecDepth 100000 in
theorem LC_image {l : Launch} {X : pX} {t g j : Nat} {I : pHI} {J : pHJ} {Q : pQ} (hj : j + 6 ≤ X.1) (hX : X.1 ≤ 3072) (hR : Rel t g I) (hk : ∀ I1 J1 t1 g1, Rel t1 g1 I1 → pE l X mL_law 80 pK 1493 [some (.ref 2000000), some (.ref 0), some (.ref 67), some (.int (nI j))] [] pK I1 J1 (pR t1 g1) Q) : pE l X mL_law 80 pK 1424 [some (.ref 2000000), some (.ref 0), some (.ref 67), some (.int (nI j))] [] pK I J (pR t g) Q := by
  have hin : ∀ k, k < X.1 → vp_in (nI k) X.1 := fun k hk => vp_in_nI hk (by omega)
  refine pE_aload_n dL_law_1424 rfl rfl ?_
  refine pE_aload_n dL_law_1425 rfl rfl ?_
  refine pE_iload_n dL_law_1426 rfl rfl ?_
  refine pE_iconst (v := nI 1) dL_law_1427 rfl ?_
  refine pE_iaddN dL_law_1428 ?_
  refine pE_sload dL_law_1429 (by exact hin _ (by omega)) ?_
  refine pE_callV (d' := 3) (as := [_]) dL_law_1430 lkL_206 (cwX11_image _ _) ivX11_image ⟨_, rfl, rfl⟩ (by first | assumption | rfl) rfl rfl (Nat.le_of_ble_eq_true rfl) (by decide) pKK ?_
  refine Z_image hR (fun v I1 J1 t1 g1 z => ?_)
  refine pE_aload_n dL_law_1433 rfl rfl ?_
  refine pE_aload_n dL_law_1434 rfl rfl ?_
  refine pE_iload_n dL_law_1435 rfl rfl ?_
  refine pE_iconst (v := nI 1) dL_law_1436 rfl ?_
  refine pE_iaddN dL_law_1437 ?_
  refine pE_sload dL_law_1438 (by exact hin _ (by omega)) ?_
  refine pE_callV (d' := 1) (as := [_]) dL_law_1439 lkL_209 (cwX12_image _ _) ivX12_image ⟨_, rfl, rfl⟩ (by first | assumption | rfl) rfl rfl (Nat.le_of_ble_eq_true rfl) (by decide) pKK ?_
  refine z _ (fun I2 J2 hR2 => ?_)
  refine pE_icmp_eq (tgt := 1493) dL_law_1442 (by decide) (fun h1442 => ?_) (fun h1442 => ?_)
  · exact hk _ _ _ _ hR2
  · exact absurd rfl h1442
set_option maxHeartbeats 400000 in
set_option maxRecDepth 100000 in
theorem LC_back {l : Launch} {X : pX} {t g j : Nat} {I : pHI} {J : pHJ} {Q : pQ} (hj : j + 6 ≤ X.1) (hX : X.1 ≤ 3072) (hR : Rel t g I) (hk : ∀ I1 J1 t1 g1, Rel t1 g1 I1 → pE l X mL_law 80 pK 1493 [some (.ref 2000000), some (.ref 0), some (.ref 67), some (.int (nI j))] [] pK I1 J1 (pR t1 g1) Q) : pE l X mL_law 80 pK 1447 [some (.ref 2000000), some (.ref 0), some (.ref 67), some (.int (nI j))] [] pK I J (pR t g) Q := by
  have hin : ∀ k, k < X.1 → vp_in (nI k) X.1 := fun k hk => vp_in_nI hk (by omega)
  refine pE_aload_n dL_law_1447 rfl rfl ?_
  refine pE_aload_n dL_law_1448 rfl rfl ?_
  refine pE_iload_n dL_law_1449 rfl rfl ?_
  refine pE_iconst (v := nI 1) dL_law_1450 rfl ?_
  refine pE_iaddN dL_law_1451 ?_
  refine pE_sload dL_law_1452 (by exact hin _ (by omega)) ?_
  refine pE_callV (d' := 3) (as := [_]) dL_law_1453 lkL_210 (cwX11_back _ _) ivX11_back ⟨_, rfl, rfl⟩ (by first | assumption | rfl) rfl rfl (Nat.le_of_ble_eq_true rfl) (by decide) pKK ?_
  refine Z_back hR (fun v I1 J1 t1 g1 z => ?_)
  refine pE_aload_n dL_law_1456 rfl rfl ?_
  refine pE_aload_n dL_law_1457 rfl rfl ?_
  refine pE_iload_n dL_law_1458 rfl rfl ?_
  refine pE_iconst (v := nI 1) dL_law_1459 rfl ?_
  refine pE_iaddN dL_law_1460 ?_
  refine pE_sload dL_law_1461 (by exact hin _ (by omega)) ?_
  refine pE_callV (d' := 1) (as := [_]) dL_law_1462 lkL_213 (cwX12_back _ _) ivX12_back ⟨_, rfl, rfl⟩ (by first | assumption | rfl) rfl rfl (Nat.le_of_ble_eq_true rfl) (by decide) pKK ?_
  refine z _ (fun I2 J2 hR2 => ?_)
  refine pE_icmp_eq (tgt := 1493) dL_law_1465 (by decide) (fun h1465 => ?_) (fun h1465 => ?_)
  · exact hk _ _ _ _ hR2
  · exact absurd rfl h1465
set_option maxHeartbeats 400000 in
set_option maxRecDepth 100000 in
theorem LC_about {l : Launch} {X : pX} {t g j : Nat} {I : pHI} {J : pHJ} {Q : pQ} (hj : j + 6 ≤ X.1) (hX : X.1 ≤ 3072) (hR : Rel t g I) (hk : ∀ I1 J1 t1 g1, Rel t1 g1 I1 → pE l X mL_law 80 pK 1493 [some (.ref 2000000), some (.ref 0), some (.ref 67), some (.int (nI j))] [] pK I1 J1 (pR t1 g1) Q) : pE l X mL_law 80 pK 1470 [some (.ref 2000000), some (.ref 0), some (.ref 67), some (.int (nI j))] [] pK I J (pR t g) Q := by
  have hin : ∀ k, k < X.1 → vp_in (nI k) X.1 := fun k hk => vp_in_nI hk (by omega)
  refine pE_aload_n dL_law_1470 rfl rfl ?_
  refine pE_aload_n dL_law_1471 rfl rfl ?_
  refine pE_iload_n dL_law_1472 rfl rfl ?_
  refine pE_iconst (v := nI 1) dL_law_1473 rfl ?_
  refine pE_iaddN dL_law_1474 ?_
  refine pE_sload dL_law_1475 (by exact hin _ (by omega)) ?_
  refine pE_callV (d' := 0) (as := [_]) dL_law_1476 lkL_214 (cwX11_about _ _) ivX11_about ⟨_, rfl, rfl⟩ (by first | assumption | rfl) rfl rfl (Nat.le_of_ble_eq_true rfl) (by decide) pKK ?_
  refine Z_about hR (fun v I1 J1 t1 g1 z => ?_)
  refine pE_aload_n dL_law_1479 rfl rfl ?_
  refine pE_aload_n dL_law_1480 rfl rfl ?_
  refine pE_iload_n dL_law_1481 rfl rfl ?_
  refine pE_iconst (v := nI 1) dL_law_1482 rfl ?_
  refine pE_iaddN dL_law_1483 ?_
  refine pE_sload dL_law_1484 (by exact hin _ (by omega)) ?_
  refine pE_callV (d' := 0) (as := [_]) dL_law_1485 lkL_217 (cwX12_about _ _) ivX12_about ⟨_, rfl, rfl⟩ (by first | assumption | rfl) rfl rfl (Nat.le_of_ble_eq_true rfl) (by decide) pKK ?_
  refine z _ (fun I2 J2 hR2 => ?_)
  refine pE_icmp_eq (tgt := 1493) dL_law_1488 (by decide) (fun h1488 => ?_) (fun h1488 => ?_)
  · exact hk _ _ _ _ hR2
  · exact absurd rfl h1488
set_option maxHeartbeats 400000 in
set_option maxRecDepth 100000 in
theorem L_loop {l : Launch} {X : pX} {Q : pQ} (hX : X.1 ≤ 3072) (hq : ∀ I J R, Q (some (.int (nI 1))) I J R) : ∀ (fu j t g : Nat) (I : pHI) (J : pHJ), X.1 - j < fu → j ≤ X.1 → Rel t g I → pE l X mL_law 80 pK 18 [some (.ref 2000000), some (.ref 0), some (.ref 67), some (.int (nI j))] [] pK I J (pR t g) Q := by
  have hin : ∀ k, k < X.1 → vp_in (nI k) X.1 := fun k hk => vp_in_nI hk (by omega)
  intro fu
  induction fu with
  | zero => intro j t g I J hn; exact absurd hn (Nat.not_lt_zero _)
  | succ fu ih =>
    intro j t g I J hn hjn hR
    have K6 : j + 6 ≤ X.1 → ∀ I1 J1 t1 g1, Rel t1 g1 I1 → pE l X mL_law 80 pK 1493 [some (.ref 2000000), some (.ref 0), some (.ref 67), some (.int (nI j))] [] pK I1 J1 (pR t1 g1) Q := by
      intro hj6 I1 J1 t1 g1 hR1
      refine pE_iincN (c0 := 6) (lc' := [_, _, _, some (.int _)]) dL_law_1493 rfl rfl rfl rfl ?_
      refine pE_goto (tgt := 18) dL_law_1496 (by decide) ?_
      exact ih (j + 6) _ _ _ _ (by omega) (by omega) hR1
    refine pE_iload_n dL_law_18 rfl rfl ?_
    refine pE_aload_n dL_law_19 rfl rfl ?_
    refine pE_slen dL_law_20 ?_
    refine pE_bipush (v := nI 6) dL_law_21 rfl ?_
    refine pE_isub dL_law_23 ?_
    refine pE_icmp_gt (tgt := 1499) dL_law_24 (by decide) (fun h24 => ?_) (fun h24 => ?_)
    · refine pE_iconst (v := nI 1) dL_law_1499 rfl ?_
      refine pE_zret dL_law_1500 rfl (by first | exact Or.inl nI_0 | exact Or.inr nI_1' | assumption) rfl ?_
      exact hq _ _ _
    · have hj6 := law_ix hX hjn h24
      have hk := K6 hj6
      refine pE_aload_n dL_law_27 rfl rfl ?_
      refine pE_iload_n dL_law_28 rfl rfl ?_
      refine pE_sload dL_law_29 (by exact hin _ (by omega)) ?_
      refine pE_bipush (v := nI 63) dL_law_30 rfl ?_
      refine pE_iand dL_law_32 ?_
      obtain ⟨k, hk63, ek⟩ := and_63 (X.2 (nI j).toNatClampNeg)
      rw [ek]
      by_cases h48 : k ≤ 48
      · have hks : k = 0 ∨ k = 1 ∨ k = 2 ∨ k = 3 ∨ k = 4 ∨ k = 5 ∨ k = 6 ∨ k = 7 ∨ k = 8 ∨ k = 9 ∨ k = 10 ∨ k = 11 ∨ k = 12 ∨ k = 13 ∨ k = 14 ∨ k = 15 ∨ k = 16 ∨ k = 17 ∨ k = 18 ∨ k = 19 ∨ k = 20 ∨ k = 21 ∨ k = 22 ∨ k = 23 ∨ k = 24 ∨ k = 25 ∨ k = 26 ∨ k = 27 ∨ k = 28 ∨ k = 29 ∨ k = 30 ∨ k = 31 ∨ k = 32 ∨ k = 33 ∨ k = 34 ∨ k = 35 ∨ k = 36 ∨ k = 37 ∨ k = 38 ∨ k = 39 ∨ k = 40 ∨ k = 41 ∨ k = 42 ∨ k = 43 ∨ k = 44 ∨ k = 45 ∨ k = 46 ∨ k = 47 ∨ k = 48 := by omega
        rcases hks with rfl | rfl | rfl | rfl | rfl | rfl | rfl | rfl | rfl | rfl | rfl | rfl | rfl | rfl | rfl | rfl | rfl | rfl | rfl | rfl | rfl | rfl | rfl | rfl | rfl | rfl | rfl | rfl | rfl | rfl | rfl | rfl | rfl | rfl | rfl | rfl | rfl | rfl | rfl | rfl | rfl | rfl | rfl | rfl | rfl | rfl | rfl | rfl | rfl
        · refine pE_tableIn (off := 211) (tgt := 244) dL_law_33 (by decide +kernel) (by decide +kernel) rfl (by decide) ?_
          exact LC_feed hj6 hX hR hk
        · refine pE_tableIn (off := 274) (tgt := 307) dL_law_33 (by decide +kernel) (by decide +kernel) rfl (by decide) ?_
          exact LC_end hj6 hX hR hk
        · refine pE_tableIn (off := 297) (tgt := 330) dL_law_33 (by decide +kernel) (by decide +kernel) rfl (by decide) ?_
          exact LC_house hj6 hX hR hk
        · refine pE_tableIn (off := 310) (tgt := 343) dL_law_33 (by decide +kernel) (by decide +kernel) rfl (by decide) ?_
          exact LC_fault hj6 hX hR hk
        · refine pE_tableIn (off := 333) (tgt := 366) dL_law_33 (by decide +kernel) (by decide +kernel) rfl (by decide) ?_
          exact LC_tenant hj6 hX hR hk
        · refine pE_tableIn (off := 366) (tgt := 399) dL_law_33 (by decide +kernel) (by decide +kernel) rfl (by decide) ?_
          exact LC_worth hj6 hX hR hk
        · refine pE_tableIn (off := 429) (tgt := 462) dL_law_33 (by decide +kernel) (by decide +kernel) rfl (by decide) ?_
          exact LC_climb hj6 hX hR hk
        · refine pE_tableIn (off := 482) (tgt := 515) dL_law_33 (by decide +kernel) (by decide +kernel) rfl (by decide) ?_
          exact LC_give hj6 hX hR hk
        · refine pE_tableIn (off := 525) (tgt := 558) dL_law_33 (by decide +kernel) (by decide +kernel) rfl (by decide) ?_
          exact LC_week hj6 hX hR hk
        · refine pE_tableIn (off := 538) (tgt := 571) dL_law_33 (by decide +kernel) (by decide +kernel) rfl (by decide) ?_
          exact LC_undo hj6 hX hR hk
        · refine pE_tableIn (off := 551) (tgt := 584) dL_law_33 (by decide +kernel) (by decide +kernel) rfl (by decide) ?_
          exact LC_redo hj6 hX hR hk
        · refine pE_tableIn (off := 564) (tgt := 597) dL_law_33 (by decide +kernel) (by decide +kernel) rfl (by decide) ?_
          exact LC_fewest hj6 hX hR hk
        · refine pE_tableIn (off := 587) (tgt := 620) dL_law_33 (by decide +kernel) (by decide +kernel) rfl (by decide) ?_
          exact LC_carries hj6 hX hR hk
        · refine pE_tableIn (off := 620) (tgt := 653) dL_law_33 (by decide +kernel) (by decide +kernel) rfl (by decide) ?_
          exact LC_care hj6 hX hR hk
        · refine pE_tableIn (off := 633) (tgt := 666) dL_law_33 (by decide +kernel) (by decide +kernel) rfl (by decide) ?_
          exact LC_gifts hj6 hX hR hk
        · refine pE_tableIn (off := 656) (tgt := 689) dL_law_33 (by decide +kernel) (by decide +kernel) rfl (by decide) ?_
          exact LC_envies hj6 hX hR hk
        · refine pE_tableIn (off := 679) (tgt := 712) dL_law_33 (by decide +kernel) (by decide +kernel) rfl (by decide) ?_
          exact LC_let hj6 hX hR hk
        · refine pE_tableIn (off := 692) (tgt := 725) dL_law_33 (by decide +kernel) (by decide +kernel) rfl (by decide) ?_
          exact LC_month hj6 hX hR hk
        · refine pE_tableIn (off := 715) (tgt := 748) dL_law_33 (by decide +kernel) (by decide +kernel) rfl (by decide) ?_
          exact LC_rest hj6 hX hR hk
        · refine pE_tableIn (off := 728) (tgt := 761) dL_law_33 (by decide +kernel) (by decide +kernel) rfl (by decide) ?_
          exact LC_will hj6 hX hR hk
        · refine pE_tableIn (off := 751) (tgt := 784) dL_law_33 (by decide +kernel) (by decide +kernel) rfl (by decide) ?_
          exact LC_pull hj6 hX hR hk
        · refine pE_tableIn (off := 764) (tgt := 797) dL_law_33 (by decide +kernel) (by decide +kernel) rfl (by decide) ?_
          exact LC_lever hj6 hX hR hk
        · refine pE_tableIn (off := 777) (tgt := 810) dL_law_33 (by decide +kernel) (by decide +kernel) rfl (by decide) ?_
          exact LC_odds hj6 hX hR hk
        · refine pE_tableIn (off := 830) (tgt := 863) dL_law_33 (by decide +kernel) (by decide +kernel) rfl (by decide) ?_
          exact LC_poorest hj6 hX hR hk
        · refine pE_tableIn (off := 843) (tgt := 876) dL_law_33 (by decide +kernel) (by decide +kernel) rfl (by decide) ?_
          exact LC_owing hj6 hX hR hk
        · refine pE_tableIn (off := 856) (tgt := 889) dL_law_33 (by decide +kernel) (by decide +kernel) rfl (by decide) ?_
          exact LC_law hj6 hX hR hk
        · refine pE_tableIn (off := 879) (tgt := 912) dL_law_33 (by decide +kernel) (by decide +kernel) rfl (by decide) ?_
          exact LC_stride hj6 hX hR hk
        · refine pE_tableIn (off := 912) (tgt := 945) dL_law_33 (by decide +kernel) (by decide +kernel) rfl (by decide) ?_
          exact LC_proxy hj6 hX hR hk
        · refine pE_tableIn (off := 925) (tgt := 958) dL_law_33 (by decide +kernel) (by decide +kernel) rfl (by decide) ?_
          exact LC_toil hj6 hX hR hk
        · refine pE_tableIn (off := 938) (tgt := 971) dL_law_33 (by decide +kernel) (by decide +kernel) rfl (by decide) ?_
          exact LC_settle hj6 hX hR hk
        · refine pE_tableIn (off := 971) (tgt := 1004) dL_law_33 (by decide +kernel) (by decide +kernel) rfl (by decide) ?_
          exact LC_hover hj6 hX hR hk
        · refine pE_tableIn (off := 994) (tgt := 1027) dL_law_33 (by decide +kernel) (by decide +kernel) rfl (by decide) ?_
          exact LC_ruin hj6 hX hR hk
        · refine pE_tableIn (off := 1017) (tgt := 1050) dL_law_33 (by decide +kernel) (by decide +kernel) rfl (by decide) ?_
          exact LC_team hj6 hX hR hk
        · refine pE_tableIn (off := 1050) (tgt := 1083) dL_law_33 (by decide +kernel) (by decide +kernel) rfl (by decide) ?_
          exact LC_quarrel hj6 hX hR hk
        · refine pE_tableIn (off := 1063) (tgt := 1096) dL_law_33 (by decide +kernel) (by decide +kernel) rfl (by decide) ?_
          exact LC_calm hj6 hX hR hk
        · refine pE_tableIn (off := 1086) (tgt := 1119) dL_law_33 (by decide +kernel) (by decide +kernel) rfl (by decide) ?_
          exact LC_ladder hj6 hX hR hk
        · refine pE_tableIn (off := 1109) (tgt := 1142) dL_law_33 (by decide +kernel) (by decide +kernel) rfl (by decide) ?_
          exact LC_spread hj6 hX hR hk
        · refine pE_tableIn (off := 1122) (tgt := 1155) dL_law_33 (by decide +kernel) (by decide +kernel) rfl (by decide) ?_
          exact LC_live hj6 hX hR hk
        · refine pE_tableIn (off := 1145) (tgt := 1178) dL_law_33 (by decide +kernel) (by decide +kernel) rfl (by decide) ?_
          exact LC_lies hj6 hX hR hk
        · refine pE_tableIn (off := 1168) (tgt := 1201) dL_law_33 (by decide +kernel) (by decide +kernel) rfl (by decide) ?_
          exact LC_chalk hj6 hX hR hk
        · refine pE_tableIn (off := 1217) (tgt := 1250) dL_law_33 (by decide +kernel) (by decide +kernel) rfl (by decide) ?_
          exact LC_tread hj6 hX hR hk
        · refine pE_tableIn (off := 1266) (tgt := 1299) dL_law_33 (by decide +kernel) (by decide +kernel) rfl (by decide) ?_
          exact LC_untell hj6 hX hR hk
        · refine pE_tableIn (off := 1289) (tgt := 1322) dL_law_33 (by decide +kernel) (by decide +kernel) rfl (by decide) ?_
          exact LC_later hj6 hX hR hk
        · refine pE_tableIn (off := 1312) (tgt := 1345) dL_law_33 (by decide +kernel) (by decide +kernel) rfl (by decide) ?_
          exact LC_runs hj6 hX hR hk
        · refine pE_tableIn (off := 1335) (tgt := 1368) dL_law_33 (by decide +kernel) (by decide +kernel) rfl (by decide) ?_
          exact LC_who hj6 hX hR hk
        · refine pE_tableIn (off := 1358) (tgt := 1391) dL_law_33 (by decide +kernel) (by decide +kernel) rfl (by decide) ?_
          exact LC_ask hj6 hX hR hk
        · refine pE_tableIn (off := 1391) (tgt := 1424) dL_law_33 (by decide +kernel) (by decide +kernel) rfl (by decide) ?_
          exact LC_image hj6 hX hR hk
        · refine pE_tableIn (off := 1414) (tgt := 1447) dL_law_33 (by decide +kernel) (by decide +kernel) rfl (by decide) ?_
          exact LC_back hj6 hX hR hk
        · refine pE_tableIn (off := 1437) (tgt := 1470) dL_law_33 (by decide +kernel) (by decide +kernel) rfl (by decide) ?_
          exact LC_about hj6 hX hR hk
      · refine pE_tableOut (tgt := 1493) dL_law_33 (Or.inr (by rw [nI_toInt (by omega)]; omega)) (by decide) ?_
        exact hk _ _ _ _ hR
theorem L_whole {l : Launch} {X : pX} {Q : pQ} (hX : X.1 ≤ 3072) (hq : ∀ I J R, Q (some (.int (nI 1))) I J R) : pE l X mL_law 80 (pK.take 109) 0 [some (.ref 2000000), none, none, none] [] (pK.take 0) (fun _ _ => 0) jz (fun _ _ => none) Q :=
  L_start (fun I1 hR => L_loop hX hq (X.1 + 1) 0 5 19 I1 jz (by omega) (by omega) hR)
