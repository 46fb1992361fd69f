/-! ===== the law's cases ===== -/
section CAS
variable {G : ax_G} {d i : Nat} {h : ax_H} {Q : ax_O → ax_H → Prop} {o5 o6 : Option Value}
theorem law_stuff (hn : 7 * i + 7 ≤ gn G) (hg : gn G ≤ 3584) (hJ : LJ h i) (hq : ∀ h2 o5 o6, LJ h2 (i + 1) → X G (d + 60) mL_law 1227 [some (.ref 32), some (.ref 64), some (.ref 145), some (.ref 167), some (.int (nI (7 * i))), o5, o6] [] h2 Q) : X G (d + 60) mL_law 304 [some (.ref 32), some (.ref 64), some (.ref 145), some (.ref 167), some (.int (nI (7 * i))), o5, o6] [] h Q := by
  obtain ⟨N, σ, μ, tp, hN, hSI, hMI, hCP, ⟨⟨th, hI⟩, hTp, hPs⟩, ⟨f7, e167⟩, s1, s2, s3⟩ := hJ
  have hi : i ≤ 511 := by omega
  have hC := hCP.1
  obtain ⟨hB, h3, h7, h6⟩ := id hSI
  have hO : sOK N σ := hB.ok (by omega) (by omega)
  have hy0 : σ 0 0 < 2 ^ 30 := by have := hB.2.2.2.2; omega
  have e65 := hCP.2.2.1.1
  obtain ⟨⟨dr, e64⟩, -⟩ := id hC
  obtain ⟨si, pt, fa, co, nm, rd, bc, bm, gg, F, S, O, A, e145, -⟩ := id hI
  have hMI' : ∀ m τ, m < 4 → μ m = some τ → SI N τ (50 * i + 50) := fun m τ z1 z2 => (hMI m τ z1 z2).mono (by omega)
  refine ax_aload_n dL_law_304 rfl ?_
  refine ax_aload_n dL_law_305 rfl ?_
  refine ax_iload dL_law_306 rfl ?_
  refine ax_iconst dL_law_308 (v := nI 1) (by decide) ?_
  refine ax_iadd dL_law_309 ?_
  refine ax_scO dL_law_310 (sc_ix (k := 1) (by omega) hg) ?_
  refine ax_aload_n dL_law_311 rfl ?_
  refine ax_iload dL_law_312 rfl ?_
  refine ax_iconst dL_law_314 (v := nI 2) (by decide) ?_
  refine ax_iadd dL_law_315 ?_
  refine ax_scO dL_law_316 (sc_ix (k := 2) (by omega) hg) ?_
  refine ax_cV dL_law_317 mmX11_stuff lkL_39 miX11_stuff msX11_stuff (ax_recv_of e64 rfl) rfl rfl (Nat.le_of_ble_eq_true rfl) (Nat.le_of_ble_eq_true rfl) rfl rfl (c_stuff (d := d + 58) hN hC ⟨_, rfl, ?_⟩)
  refine ax_aload_n dL_law_320 rfl ?_
  refine ax_aload_n dL_law_321 rfl ?_
  refine ax_iload dL_law_322 rfl ?_
  refine ax_iconst dL_law_324 (v := nI 1) (by decide) ?_
  refine ax_iadd dL_law_325 ?_
  refine ax_scO dL_law_326 (sc_ix (k := 1) (by omega) hg) ?_
  refine ax_aload_n dL_law_327 rfl ?_
  refine ax_iload dL_law_328 rfl ?_
  refine ax_iconst dL_law_330 (v := nI 2) (by decide) ?_
  refine ax_iadd dL_law_331 ?_
  refine ax_scO dL_law_332 (sc_ix (k := 2) (by omega) hg) ?_
  refine ax_cV dL_law_333 mmX12_stuff lkL_42 miX12_stuff msX12_stuff (ax_recv_of e145 rfl) rfl rfl (Nat.le_of_ble_eq_true rfl) (Nat.le_of_ble_eq_true rfl) rfl rfl (k_stuff (d := d + 57) hN hI (fun h2 hb2 hI2 => ⟨_, rfl, ?_⟩))
  refine ax_icmp_eqT 1227 dL_law_336 (by decide +kernel) rfl ?_
  exact hq h2 o5 o6 (LJ.mk hN (hSI.mono (by omega)) hMI' hCP hb2 moP_r hI2 (hTp.mo hb2) (hPs.mo hb2) ⟨f7, e167⟩ s1 (by omega) (Nat.le_trans s3 (Nat.le_add_right _ _)))
theorem law_road (hn : 7 * i + 7 ≤ gn G) (hg : gn G ≤ 3584) (hJ : LJ h i) (hq : ∀ h2 o5 o6, LJ h2 (i + 1) → X G (d + 60) mL_law 1227 [some (.ref 32), some (.ref 64), some (.ref 145), some (.ref 167), some (.int (nI (7 * i))), o5, o6] [] h2 Q) : X G (d + 60) mL_law 341 [some (.ref 32), some (.ref 64), some (.ref 145), some (.ref 167), some (.int (nI (7 * i))), o5, o6] [] h Q := by
  obtain ⟨N, σ, μ, tp, hN, hSI, hMI, hCP, ⟨⟨th, hI⟩, hTp, hPs⟩, ⟨f7, e167⟩, s1, s2, s3⟩ := hJ
  have hi : i ≤ 511 := by omega
  have hC := hCP.1
  obtain ⟨hB, h3, h7, h6⟩ := id hSI
  have hO : sOK N σ := hB.ok (by omega) (by omega)
  have hy0 : σ 0 0 < 2 ^ 30 := by have := hB.2.2.2.2; omega
  have e65 := hCP.2.2.1.1
  obtain ⟨⟨dr, e64⟩, -⟩ := id hC
  obtain ⟨si, pt, fa, co, nm, rd, bc, bm, gg, F, S, O, A, e145, -⟩ := id hI
  have hMI' : ∀ m τ, m < 4 → μ m = some τ → SI N τ (50 * i + 50) := fun m τ z1 z2 => (hMI m τ z1 z2).mono (by omega)
  refine ax_aload_n dL_law_341 rfl ?_
  refine ax_aload_n dL_law_342 rfl ?_
  refine ax_iload dL_law_343 rfl ?_
  refine ax_iconst dL_law_345 (v := nI 1) (by decide) ?_
  refine ax_iadd dL_law_346 ?_
  refine ax_scO dL_law_347 (sc_ix (k := 1) (by omega) hg) ?_
  refine ax_aload_n dL_law_348 rfl ?_
  refine ax_iload dL_law_349 rfl ?_
  refine ax_iconst dL_law_351 (v := nI 2) (by decide) ?_
  refine ax_iadd dL_law_352 ?_
  refine ax_scO dL_law_353 (sc_ix (k := 2) (by omega) hg) ?_
  refine ax_cV dL_law_354 mmX11_road lkL_43 miX11_road msX11_road (ax_recv_of e64 rfl) rfl rfl (Nat.le_of_ble_eq_true rfl) (Nat.le_of_ble_eq_true rfl) rfl rfl (c_road (d := d + 57) hN hO hC ⟨_, rfl, ?_⟩)
  refine ax_aload_n dL_law_357 rfl ?_
  refine ax_aload_n dL_law_358 rfl ?_
  refine ax_iload dL_law_359 rfl ?_
  refine ax_iconst dL_law_361 (v := nI 1) (by decide) ?_
  refine ax_iadd dL_law_362 ?_
  refine ax_scO dL_law_363 (sc_ix (k := 1) (by omega) hg) ?_
  refine ax_aload_n dL_law_364 rfl ?_
  refine ax_iload dL_law_365 rfl ?_
  refine ax_iconst dL_law_367 (v := nI 2) (by decide) ?_
  refine ax_iadd dL_law_368 ?_
  refine ax_scO dL_law_369 (sc_ix (k := 2) (by omega) hg) ?_
  refine ax_cV dL_law_370 mmX12_road lkL_46 miX12_road msX12_road (ax_recv_of e145 rfl) rfl rfl (Nat.le_of_ble_eq_true rfl) (Nat.le_of_ble_eq_true rfl) rfl rfl (k_road (d := d + 57) hN hO hI (fun h2 hb2 hI2 => ⟨_, rfl, ?_⟩))
  refine ax_icmp_eqT 1227 dL_law_373 (by decide +kernel) rfl ?_
  exact hq h2 o5 o6 (LJ.mk hN (hSI.mono (by omega)) hMI' hCP hb2 moP_r hI2 (hTp.mo hb2) (hPs.mo hb2) ⟨f7, e167⟩ s1 (by omega) (Nat.le_trans s3 (Nat.le_add_right _ _)))
theorem law_surface (hn : 7 * i + 7 ≤ gn G) (hg : gn G ≤ 3584) (hJ : LJ h i) (hq : ∀ h2 o5 o6, LJ h2 (i + 1) → X G (d + 60) mL_law 1227 [some (.ref 32), some (.ref 64), some (.ref 145), some (.ref 167), some (.int (nI (7 * i))), o5, o6] [] h2 Q) : X G (d + 60) mL_law 378 [some (.ref 32), some (.ref 64), some (.ref 145), some (.ref 167), some (.int (nI (7 * i))), o5, o6] [] h Q := by
  obtain ⟨N, σ, μ, tp, hN, hSI, hMI, hCP, ⟨⟨th, hI⟩, hTp, hPs⟩, ⟨f7, e167⟩, s1, s2, s3⟩ := hJ
  have hi : i ≤ 511 := by omega
  have hC := hCP.1
  obtain ⟨hB, h3, h7, h6⟩ := id hSI
  have hO : sOK N σ := hB.ok (by omega) (by omega)
  have hy0 : σ 0 0 < 2 ^ 30 := by have := hB.2.2.2.2; omega
  have e65 := hCP.2.2.1.1
  obtain ⟨⟨dr, e64⟩, -⟩ := id hC
  obtain ⟨si, pt, fa, co, nm, rd, bc, bm, gg, F, S, O, A, e145, -⟩ := id hI
  have hMI' : ∀ m τ, m < 4 → μ m = some τ → SI N τ (50 * i + 50) := fun m τ z1 z2 => (hMI m τ z1 z2).mono (by omega)
  refine ax_aload_n dL_law_378 rfl ?_
  refine ax_aload_n dL_law_379 rfl ?_
  refine ax_iload dL_law_380 rfl ?_
  refine ax_iconst dL_law_382 (v := nI 1) (by decide) ?_
  refine ax_iadd dL_law_383 ?_
  refine ax_scO dL_law_384 (sc_ix (k := 1) (by omega) hg) ?_
  refine ax_aload_n dL_law_385 rfl ?_
  refine ax_iload dL_law_386 rfl ?_
  refine ax_iconst dL_law_388 (v := nI 2) (by decide) ?_
  refine ax_iadd dL_law_389 ?_
  refine ax_scO dL_law_390 (sc_ix (k := 2) (by omega) hg) ?_
  refine ax_cV dL_law_391 mmX11_surface lkL_47 miX11_surface msX11_surface (ax_recv_of e64 rfl) rfl rfl (Nat.le_of_ble_eq_true rfl) (Nat.le_of_ble_eq_true rfl) rfl rfl (c_surface (d := d + 58) hN hC ⟨_, rfl, ?_⟩)
  refine ax_aload_n dL_law_394 rfl ?_
  refine ax_aload_n dL_law_395 rfl ?_
  refine ax_iload dL_law_396 rfl ?_
  refine ax_iconst dL_law_398 (v := nI 1) (by decide) ?_
  refine ax_iadd dL_law_399 ?_
  refine ax_scO dL_law_400 (sc_ix (k := 1) (by omega) hg) ?_
  refine ax_aload_n dL_law_401 rfl ?_
  refine ax_iload dL_law_402 rfl ?_
  refine ax_iconst dL_law_404 (v := nI 2) (by decide) ?_
  refine ax_iadd dL_law_405 ?_
  refine ax_scO dL_law_406 (sc_ix (k := 2) (by omega) hg) ?_
  refine ax_cV dL_law_407 mmX12_surface lkL_50 miX12_surface msX12_surface (ax_recv_of e145 rfl) rfl rfl (Nat.le_of_ble_eq_true rfl) (Nat.le_of_ble_eq_true rfl) rfl rfl (k_surface (d := d + 57) hN hI (fun h2 hb2 hI2 => ⟨_, rfl, ?_⟩))
  refine ax_icmp_eqT 1227 dL_law_410 (by decide +kernel) rfl ?_
  exact hq h2 o5 o6 (LJ.mk hN (hSI.mono (by omega)) hMI' hCP hb2 moP_r hI2 (hTp.mo hb2) (hPs.mo hb2) ⟨f7, e167⟩ s1 (by omega) (Nat.le_trans s3 (Nat.le_add_right _ _)))
theorem law_trade (hn : 7 * i + 7 ≤ gn G) (hg : gn G ≤ 3584) (hJ : LJ h i) (hq : ∀ h2 o5 o6, LJ h2 (i + 1) → X G (d + 60) mL_law 1227 [some (.ref 32), some (.ref 64), some (.ref 145), some (.ref 167), some (.int (nI (7 * i))), o5, o6] [] h2 Q) : X G (d + 60) mL_law 415 [some (.ref 32), some (.ref 64), some (.ref 145), some (.ref 167), some (.int (nI (7 * i))), o5, o6] [] h Q := by
  obtain ⟨N, σ, μ, tp, hN, hSI, hMI, hCP, ⟨⟨th, hI⟩, hTp, hPs⟩, ⟨f7, e167⟩, s1, s2, s3⟩ := hJ
  have hi : i ≤ 511 := by omega
  have hC := hCP.1
  obtain ⟨hB, h3, h7, h6⟩ := id hSI
  have hO : sOK N σ := hB.ok (by omega) (by omega)
  have hy0 : σ 0 0 < 2 ^ 30 := by have := hB.2.2.2.2; omega
  have e65 := hCP.2.2.1.1
  obtain ⟨⟨dr, e64⟩, -⟩ := id hC
  obtain ⟨si, pt, fa, co, nm, rd, bc, bm, gg, F, S, O, A, e145, -⟩ := id hI
  have hMI' : ∀ m τ, m < 4 → μ m = some τ → SI N τ (50 * i + 50) := fun m τ z1 z2 => (hMI m τ z1 z2).mono (by omega)
  refine ax_aload_n dL_law_415 rfl ?_
  refine ax_aload_n dL_law_416 rfl ?_
  refine ax_iload dL_law_417 rfl ?_
  refine ax_iconst dL_law_419 (v := nI 1) (by decide) ?_
  refine ax_iadd dL_law_420 ?_
  refine ax_scO dL_law_421 (sc_ix (k := 1) (by omega) hg) ?_
  refine ax_aload_n dL_law_422 rfl ?_
  refine ax_iload dL_law_423 rfl ?_
  refine ax_iconst dL_law_425 (v := nI 2) (by decide) ?_
  refine ax_iadd dL_law_426 ?_
  refine ax_scO dL_law_427 (sc_ix (k := 2) (by omega) hg) ?_
  refine ax_cV dL_law_428 mmX11_trade lkL_51 miX11_trade msX11_trade (ax_recv_of e64 rfl) rfl rfl (Nat.le_of_ble_eq_true rfl) (Nat.le_of_ble_eq_true rfl) rfl rfl (c_trade (d := d + 58) hN hC ⟨_, rfl, ?_⟩)
  refine ax_aload_n dL_law_431 rfl ?_
  refine ax_aload_n dL_law_432 rfl ?_
  refine ax_iload dL_law_433 rfl ?_
  refine ax_iconst dL_law_435 (v := nI 1) (by decide) ?_
  refine ax_iadd dL_law_436 ?_
  refine ax_scO dL_law_437 (sc_ix (k := 1) (by omega) hg) ?_
  refine ax_aload_n dL_law_438 rfl ?_
  refine ax_iload dL_law_439 rfl ?_
  refine ax_iconst dL_law_441 (v := nI 2) (by decide) ?_
  refine ax_iadd dL_law_442 ?_
  refine ax_scO dL_law_443 (sc_ix (k := 2) (by omega) hg) ?_
  refine ax_cV dL_law_444 mmX12_trade lkL_54 miX12_trade msX12_trade (ax_recv_of e145 rfl) rfl rfl (Nat.le_of_ble_eq_true rfl) (Nat.le_of_ble_eq_true rfl) rfl rfl (k_trade (d := d + 57) hN hI (fun h2 hb2 hI2 => ⟨_, rfl, ?_⟩))
  refine ax_icmp_eqT 1227 dL_law_447 (by decide +kernel) rfl ?_
  exact hq h2 o5 o6 (LJ.mk hN (hSI.mono (by omega)) hMI' hCP hb2 moP_r hI2 (hTp.mo hb2) (hPs.mo hb2) ⟨f7, e167⟩ s1 (by omega) (Nat.le_trans s3 (Nat.le_add_right _ _)))
theorem law_way (hn : 7 * i + 7 ≤ gn G) (hg : gn G ≤ 3584) (hJ : LJ h i) (hq : ∀ h2 o5 o6, LJ h2 (i + 1) → X G (d + 60) mL_law 1227 [some (.ref 32), some (.ref 64), some (.ref 145), some (.ref 167), some (.int (nI (7 * i))), o5, o6] [] h2 Q) : X G (d + 60) mL_law 452 [some (.ref 32), some (.ref 64), some (.ref 145), some (.ref 167), some (.int (nI (7 * i))), o5, o6] [] h Q := by
  obtain ⟨N, σ, μ, tp, hN, hSI, hMI, hCP, ⟨⟨th, hI⟩, hTp, hPs⟩, ⟨f7, e167⟩, s1, s2, s3⟩ := hJ
  have hi : i ≤ 511 := by omega
  have hC := hCP.1
  obtain ⟨hB, h3, h7, h6⟩ := id hSI
  have hO : sOK N σ := hB.ok (by omega) (by omega)
  have hy0 : σ 0 0 < 2 ^ 30 := by have := hB.2.2.2.2; omega
  have e65 := hCP.2.2.1.1
  obtain ⟨⟨dr, e64⟩, -⟩ := id hC
  obtain ⟨si, pt, fa, co, nm, rd, bc, bm, gg, F, S, O, A, e145, -⟩ := id hI
  have hMI' : ∀ m τ, m < 4 → μ m = some τ → SI N τ (50 * i + 50) := fun m τ z1 z2 => (hMI m τ z1 z2).mono (by omega)
  refine ax_aload_n dL_law_452 rfl ?_
  refine ax_aload_n dL_law_453 rfl ?_
  refine ax_iload dL_law_454 rfl ?_
  refine ax_iconst dL_law_456 (v := nI 1) (by decide) ?_
  refine ax_iadd dL_law_457 ?_
  refine ax_scO dL_law_458 (sc_ix (k := 1) (by omega) hg) ?_
  refine ax_aload_n dL_law_459 rfl ?_
  refine ax_iload dL_law_460 rfl ?_
  refine ax_iconst dL_law_462 (v := nI 2) (by decide) ?_
  refine ax_iadd dL_law_463 ?_
  refine ax_scO dL_law_464 (sc_ix (k := 2) (by omega) hg) ?_
  refine ax_cV dL_law_465 mmX11_way lkL_55 miX11_way msX11_way (ax_recv_of e64 rfl) rfl rfl (Nat.le_of_ble_eq_true rfl) (Nat.le_of_ble_eq_true rfl) rfl rfl (c_way (d := d + 54) hN hO hC (fun h1 hb1 hC1 => ⟨_, rfl, ?_⟩))
  have w1 : ∀ j, trP j → wrK j := fun j z => by unfold trP at z; unfold wrK; omega
  have hCP1 := hCP.tr hb1.gw w1 hC1
  obtain ⟨⟨th1, hI⟩, hTp, hPs⟩ := MP.tr ⟨⟨th, hI⟩, hTp, hPs⟩ hb1.gw w1
  obtain ⟨si, pt, fa, co, nm, rd, bc, bm, gg, F, S, O, A, e145, -⟩ := id hI
  refine ax_aload_n dL_law_468 rfl ?_
  refine ax_aload_n dL_law_469 rfl ?_
  refine ax_iload dL_law_470 rfl ?_
  refine ax_iconst dL_law_472 (v := nI 1) (by decide) ?_
  refine ax_iadd dL_law_473 ?_
  refine ax_scO dL_law_474 (sc_ix (k := 1) (by omega) hg) ?_
  refine ax_aload_n dL_law_475 rfl ?_
  refine ax_iload dL_law_476 rfl ?_
  refine ax_iconst dL_law_478 (v := nI 2) (by decide) ?_
  refine ax_iadd dL_law_479 ?_
  refine ax_scO dL_law_480 (sc_ix (k := 2) (by omega) hg) ?_
  refine ax_cV dL_law_481 mmX12_way lkL_58 miX12_way msX12_way (ax_recv_of e145 rfl) rfl rfl (Nat.le_of_ble_eq_true rfl) (Nat.le_of_ble_eq_true rfl) rfl rfl (k_way (d := d + 49) hN hO hI (fun h2 hb2 hI2 => ⟨_, rfl, ?_⟩))
  refine ax_icmp_eqT 1227 dL_law_484 (by decide +kernel) rfl ?_
  exact hq h2 o5 o6 (LJ.mk hN (hSI.mono (by omega)) hMI' hCP1 hb2 moP_r hI2 (hTp.mo hb2) (hPs.mo hb2) ⟨f7, (hb1.2.2 167 (by unfold trP ; omega)).trans e167⟩ (by rw [hb1.1]; exact s1) (by rw [hb1.1]; omega) (by rw [hb1.2.1]; exact Nat.le_trans s3 (Nat.le_add_right _ _)))
theorem law_shock (hn : 7 * i + 7 ≤ gn G) (hg : gn G ≤ 3584) (hJ : LJ h i) (hq : ∀ h2 o5 o6, LJ h2 (i + 1) → X G (d + 60) mL_law 1227 [some (.ref 32), some (.ref 64), some (.ref 145), some (.ref 167), some (.int (nI (7 * i))), o5, o6] [] h2 Q) : X G (d + 60) mL_law 545 [some (.ref 32), some (.ref 64), some (.ref 145), some (.ref 167), some (.int (nI (7 * i))), o5, o6] [] h Q := by
  obtain ⟨N, σ, μ, tp, hN, hSI, hMI, hCP, ⟨⟨th, hI⟩, hTp, hPs⟩, ⟨f7, e167⟩, s1, s2, s3⟩ := hJ
  have hi : i ≤ 511 := by omega
  have hC := hCP.1
  obtain ⟨hB, h3, h7, h6⟩ := id hSI
  have hO : sOK N σ := hB.ok (by omega) (by omega)
  have hy0 : σ 0 0 < 2 ^ 30 := by have := hB.2.2.2.2; omega
  have e65 := hCP.2.2.1.1
  obtain ⟨⟨dr, e64⟩, -⟩ := id hC
  obtain ⟨si, pt, fa, co, nm, rd, bc, bm, gg, F, S, O, A, e145, -⟩ := id hI
  have hMI' : ∀ m τ, m < 4 → μ m = some τ → SI N τ (50 * i + 50) := fun m τ z1 z2 => (hMI m τ z1 z2).mono (by omega)
  refine ax_aload_n dL_law_545 rfl ?_
  refine ax_aload_n dL_law_546 rfl ?_
  refine ax_iload dL_law_547 rfl ?_
  refine ax_iconst dL_law_549 (v := nI 1) (by decide) ?_
  refine ax_iadd dL_law_550 ?_
  refine ax_scO dL_law_551 (sc_ix (k := 1) (by omega) hg) ?_
  refine ax_aload_n dL_law_552 rfl ?_
  refine ax_iload dL_law_553 rfl ?_
  refine ax_iconst dL_law_555 (v := nI 2) (by decide) ?_
  refine ax_iadd dL_law_556 ?_
  refine ax_scO dL_law_557 (sc_ix (k := 2) (by omega) hg) ?_
  refine ax_cV dL_law_558 mmX11_shock lkL_68 miX11_shock msX11_shock (ax_recv_of e64 rfl) rfl rfl (Nat.le_of_ble_eq_true rfl) (Nat.le_of_ble_eq_true rfl) rfl rfl (c_shock (d := d + 56) hN hO hC (fun h1 hb1 hC1 => ⟨_, rfl, ?_⟩))
  have w1 : ∀ j, trP j → wrK j := fun j z => by unfold trP at z; unfold wrK; omega
  have hCP1 := hCP.tr hb1.gw w1 hC1
  obtain ⟨⟨th1, hI⟩, hTp, hPs⟩ := MP.tr ⟨⟨th, hI⟩, hTp, hPs⟩ hb1.gw w1
  obtain ⟨si, pt, fa, co, nm, rd, bc, bm, gg, F, S, O, A, e145, -⟩ := id hI
  refine ax_aload_n dL_law_561 rfl ?_
  refine ax_aload_n dL_law_562 rfl ?_
  refine ax_iload dL_law_563 rfl ?_
  refine ax_iconst dL_law_565 (v := nI 1) (by decide) ?_
  refine ax_iadd dL_law_566 ?_
  refine ax_scO dL_law_567 (sc_ix (k := 1) (by omega) hg) ?_
  refine ax_aload_n dL_law_568 rfl ?_
  refine ax_iload dL_law_569 rfl ?_
  refine ax_iconst dL_law_571 (v := nI 2) (by decide) ?_
  refine ax_iadd dL_law_572 ?_
  refine ax_scO dL_law_573 (sc_ix (k := 2) (by omega) hg) ?_
  refine ax_cV dL_law_574 mmX12_shock lkL_71 miX12_shock msX12_shock (ax_recv_of e145 rfl) rfl rfl (Nat.le_of_ble_eq_true rfl) (Nat.le_of_ble_eq_true rfl) rfl rfl (k_shock (d := d + 55) hN hO hI (fun h2 hb2 hI2 => ⟨_, rfl, ?_⟩))
  refine ax_icmp_eqT 1227 dL_law_577 (by decide +kernel) rfl ?_
  exact hq h2 o5 o6 (LJ.mk hN (hSI.mono (by omega)) hMI' hCP1 hb2 moP_r hI2 (hTp.mo hb2) (hPs.mo hb2) ⟨f7, (hb1.2.2 167 (by unfold trP ; omega)).trans e167⟩ (by rw [hb1.1]; exact s1) (by rw [hb1.1]; omega) (by rw [hb1.2.1]; exact Nat.le_trans s3 (Nat.le_add_right _ _)))
theorem law_years (hn : 7 * i + 7 ≤ gn G) (hg : gn G ≤ 3584) (hJ : LJ h i) (hq : ∀ h2 o5 o6, LJ h2 (i + 1) → X G (d + 60) mL_law 1227 [some (.ref 32), some (.ref 64), some (.ref 145), some (.ref 167), some (.int (nI (7 * i))), o5, o6] [] h2 Q) : X G (d + 60) mL_law 582 [some (.ref 32), some (.ref 64), some (.ref 145), some (.ref 167), some (.int (nI (7 * i))), o5, o6] [] h Q := by
  obtain ⟨N, σ, μ, tp, hN, hSI, hMI, hCP, ⟨⟨th, hI⟩, hTp, hPs⟩, ⟨f7, e167⟩, s1, s2, s3⟩ := hJ
  have hi : i ≤ 511 := by omega
  have hC := hCP.1
  obtain ⟨hB, h3, h7, h6⟩ := id hSI
  have hO : sOK N σ := hB.ok (by omega) (by omega)
  have hy0 : σ 0 0 < 2 ^ 30 := by have := hB.2.2.2.2; omega
  have e65 := hCP.2.2.1.1
  obtain ⟨⟨dr, e64⟩, -⟩ := id hC
  obtain ⟨si, pt, fa, co, nm, rd, bc, bm, gg, F, S, O, A, e145, -⟩ := id hI
  have hMI' : ∀ m τ, m < 4 → μ m = some τ → SI N τ (50 * i + 50) := fun m τ z1 z2 => (hMI m τ z1 z2).mono (by omega)
  refine ax_aload_n dL_law_582 rfl ?_
  refine ax_aload_n dL_law_583 rfl ?_
  refine ax_iload dL_law_584 rfl ?_
  refine ax_iconst dL_law_586 (v := nI 1) (by decide) ?_
  refine ax_iadd dL_law_587 ?_
  refine ax_scO dL_law_588 (sc_ix (k := 1) (by omega) hg) ?_
  refine ax_cV dL_law_589 mmX11_years lkL_72 miX11_years msX11_years (ax_recv_of e64 rfl) rfl rfl (Nat.le_of_ble_eq_true rfl) (Nat.le_of_ble_eq_true rfl) rfl rfl (c_years (d := d + 54) hN hB (by omega) (by omega) (by omega) hC (fun h1 hb1 hC1 => ⟨_, rfl, ?_⟩))
  have w1 : ∀ j, yrP j → wrK j := fun j z => by unfold yrP at z; unfold wrK; omega
  have hCP1 := hCP.tr hb1.gw w1 hC1
  obtain ⟨⟨th1, hI⟩, hTp, hPs⟩ := MP.tr ⟨⟨th, hI⟩, hTp, hPs⟩ hb1.gw w1
  obtain ⟨si, pt, fa, co, nm, rd, bc, bm, gg, F, S, O, A, e145, -⟩ := id hI
  refine ax_aload_n dL_law_592 rfl ?_
  refine ax_aload_n dL_law_593 rfl ?_
  refine ax_iload dL_law_594 rfl ?_
  refine ax_iconst dL_law_596 (v := nI 1) (by decide) ?_
  refine ax_iadd dL_law_597 ?_
  refine ax_scO dL_law_598 (sc_ix (k := 1) (by omega) hg) ?_
  refine ax_cV dL_law_599 mmX12_years lkL_75 miX12_years msX12_years (ax_recv_of e145 rfl) rfl rfl (Nat.le_of_ble_eq_true rfl) (Nat.le_of_ble_eq_true rfl) rfl rfl (k_years (d := d + 47) hN hB (by omega) (by omega) (by omega) hI (fun h2 hb2 hI2 => ⟨_, rfl, ?_⟩))
  refine ax_icmp_eqT 1227 dL_law_602 (by decide +kernel) rfl ?_
  exact hq h2 o5 o6 (LJ.mk hN (hSI.years hN) hMI' hCP1 hb2 moP_r hI2 (hTp.mo hb2) (hPs.mo hb2) ⟨f7, (hb1.2.2 167 (by unfold yrP ; omega)).trans e167⟩ (by rw [hb1.1]; exact s1) (by rw [hb1.1]; omega) (by rw [hb1.2.1]; exact Nat.le_trans s3 (Nat.le_add_right _ _)))
theorem law_layer (hn : 7 * i + 7 ≤ gn G) (hg : gn G ≤ 3584) (hJ : LJ h i) (hq : ∀ h2 o5 o6, LJ h2 (i + 1) → X G (d + 60) mL_law 1227 [some (.ref 32), some (.ref 64), some (.ref 145), some (.ref 167), some (.int (nI (7 * i))), o5, o6] [] h2 Q) : X G (d + 60) mL_law 656 [some (.ref 32), some (.ref 64), some (.ref 145), some (.ref 167), some (.int (nI (7 * i))), o5, o6] [] h Q := by
  obtain ⟨N, σ, μ, tp, hN, hSI, hMI, hCP, ⟨⟨th, hI⟩, hTp, hPs⟩, ⟨f7, e167⟩, s1, s2, s3⟩ := hJ
  have hi : i ≤ 511 := by omega
  have hC := hCP.1
  obtain ⟨hB, h3, h7, h6⟩ := id hSI
  have hO : sOK N σ := hB.ok (by omega) (by omega)
  have hy0 : σ 0 0 < 2 ^ 30 := by have := hB.2.2.2.2; omega
  have e65 := hCP.2.2.1.1
  obtain ⟨⟨dr, e64⟩, -⟩ := id hC
  obtain ⟨si, pt, fa, co, nm, rd, bc, bm, gg, F, S, O, A, e145, -⟩ := id hI
  have hMI' : ∀ m τ, m < 4 → μ m = some τ → SI N τ (50 * i + 50) := fun m τ z1 z2 => (hMI m τ z1 z2).mono (by omega)
  refine ax_aload_n dL_law_656 rfl ?_
  refine ax_aload_n dL_law_657 rfl ?_
  refine ax_iload dL_law_658 rfl ?_
  refine ax_iconst dL_law_660 (v := nI 1) (by decide) ?_
  refine ax_iadd dL_law_661 ?_
  refine ax_scO dL_law_662 (sc_ix (k := 1) (by omega) hg) ?_
  refine ax_aload_n dL_law_663 rfl ?_
  refine ax_iload dL_law_664 rfl ?_
  refine ax_iconst dL_law_666 (v := nI 2) (by decide) ?_
  refine ax_iadd dL_law_667 ?_
  refine ax_scO dL_law_668 (sc_ix (k := 2) (by omega) hg) ?_
  refine ax_aload_n dL_law_669 rfl ?_
  refine ax_iload dL_law_670 rfl ?_
  refine ax_iconst dL_law_672 (v := nI 3) (by decide) ?_
  refine ax_iadd dL_law_673 ?_
  refine ax_scO dL_law_674 (sc_ix (k := 3) (by omega) hg) ?_
  refine ax_cV dL_law_675 mmX11_layer lkL_81 miX11_layer msX11_layer (ax_recv_of e64 rfl) rfl rfl (Nat.le_of_ble_eq_true rfl) (Nat.le_of_ble_eq_true rfl) rfl rfl (c_layer (d := d + 57) hN hy0 hC ⟨_, rfl, ?_⟩)
  refine ax_aload_n dL_law_678 rfl ?_
  refine ax_aload_n dL_law_679 rfl ?_
  refine ax_iload dL_law_680 rfl ?_
  refine ax_iconst dL_law_682 (v := nI 1) (by decide) ?_
  refine ax_iadd dL_law_683 ?_
  refine ax_scO dL_law_684 (sc_ix (k := 1) (by omega) hg) ?_
  refine ax_aload_n dL_law_685 rfl ?_
  refine ax_iload dL_law_686 rfl ?_
  refine ax_iconst dL_law_688 (v := nI 2) (by decide) ?_
  refine ax_iadd dL_law_689 ?_
  refine ax_scO dL_law_690 (sc_ix (k := 2) (by omega) hg) ?_
  refine ax_aload_n dL_law_691 rfl ?_
  refine ax_iload dL_law_692 rfl ?_
  refine ax_iconst dL_law_694 (v := nI 3) (by decide) ?_
  refine ax_iadd dL_law_695 ?_
  refine ax_scO dL_law_696 (sc_ix (k := 3) (by omega) hg) ?_
  refine ax_cV dL_law_697 mmX12_layer lkL_85 miX12_layer msX12_layer (ax_recv_of e145 rfl) rfl rfl (Nat.le_of_ble_eq_true rfl) (Nat.le_of_ble_eq_true rfl) rfl rfl (k_layer (d := d + 57) hN hy0 hI (fun h2 hb2 hI2 => ⟨_, rfl, ?_⟩))
  refine ax_icmp_eqT 1227 dL_law_700 (by decide +kernel) rfl ?_
  exact hq h2 o5 o6 (LJ.mk hN (hSI.mono (by omega)) hMI' hCP hb2 moP_r hI2 (hTp.mo hb2) (hPs.mo hb2) ⟨f7, e167⟩ s1 (by omega) (Nat.le_trans s3 (Nat.le_add_right _ _)))
theorem law_starves (hn : 7 * i + 7 ≤ gn G) (hg : gn G ≤ 3584) (hJ : LJ h i) (hq : ∀ h2 o5 o6, LJ h2 (i + 1) → X G (d + 60) mL_law 1227 [some (.ref 32), some (.ref 64), some (.ref 145), some (.ref 167), some (.int (nI (7 * i))), o5, o6] [] h2 Q) : X G (d + 60) mL_law 705 [some (.ref 32), some (.ref 64), some (.ref 145), some (.ref 167), some (.int (nI (7 * i))), o5, o6] [] h Q := by
  obtain ⟨N, σ, μ, tp, hN, hSI, hMI, hCP, ⟨⟨th, hI⟩, hTp, hPs⟩, ⟨f7, e167⟩, s1, s2, s3⟩ := hJ
  have hi : i ≤ 511 := by omega
  have hC := hCP.1
  obtain ⟨hB, h3, h7, h6⟩ := id hSI
  have hO : sOK N σ := hB.ok (by omega) (by omega)
  have hy0 : σ 0 0 < 2 ^ 30 := by have := hB.2.2.2.2; omega
  have e65 := hCP.2.2.1.1
  obtain ⟨⟨dr, e64⟩, -⟩ := id hC
  obtain ⟨si, pt, fa, co, nm, rd, bc, bm, gg, F, S, O, A, e145, -⟩ := id hI
  have hMI' : ∀ m τ, m < 4 → μ m = some τ → SI N τ (50 * i + 50) := fun m τ z1 z2 => (hMI m τ z1 z2).mono (by omega)
  refine ax_aload_n dL_law_705 rfl ?_
  refine ax_aload_n dL_law_706 rfl ?_
  refine ax_iload dL_law_707 rfl ?_
  refine ax_iconst dL_law_709 (v := nI 1) (by decide) ?_
  refine ax_iadd dL_law_710 ?_
  refine ax_scO dL_law_711 (sc_ix (k := 1) (by omega) hg) ?_
  refine ax_aload_n dL_law_712 rfl ?_
  refine ax_iload dL_law_713 rfl ?_
  refine ax_iconst dL_law_715 (v := nI 2) (by decide) ?_
  refine ax_iadd dL_law_716 ?_
  refine ax_scO dL_law_717 (sc_ix (k := 2) (by omega) hg) ?_
  refine ax_cV dL_law_718 mmX11_starves lkL_86 miX11_starves msX11_starves (ax_recv_of e64 rfl) rfl rfl (Nat.le_of_ble_eq_true rfl) (Nat.le_of_ble_eq_true rfl) rfl rfl (c_starves (d := d + 53) hN hB (by omega) (by omega) (by omega) hC (fun h1 hb1 hC1 => ⟨_, rfl, ?_⟩))
  have w1 : ∀ j, trP j → wrK j := fun j z => by unfold trP at z; unfold wrK; omega
  have hCP1 := hCP.tr hb1.gw w1 hC1
  obtain ⟨⟨th1, hI⟩, hTp, hPs⟩ := MP.tr ⟨⟨th, hI⟩, hTp, hPs⟩ hb1.gw w1
  obtain ⟨si, pt, fa, co, nm, rd, bc, bm, gg, F, S, O, A, e145, -⟩ := id hI
  refine ax_aload_n dL_law_721 rfl ?_
  refine ax_aload_n dL_law_722 rfl ?_
  refine ax_iload dL_law_723 rfl ?_
  refine ax_iconst dL_law_725 (v := nI 1) (by decide) ?_
  refine ax_iadd dL_law_726 ?_
  refine ax_scO dL_law_727 (sc_ix (k := 1) (by omega) hg) ?_
  refine ax_aload_n dL_law_728 rfl ?_
  refine ax_iload dL_law_729 rfl ?_
  refine ax_iconst dL_law_731 (v := nI 2) (by decide) ?_
  refine ax_iadd dL_law_732 ?_
  refine ax_scO dL_law_733 (sc_ix (k := 2) (by omega) hg) ?_
  refine ax_cV dL_law_734 mmX12_starves lkL_89 miX12_starves msX12_starves (ax_recv_of e145 rfl) rfl rfl (Nat.le_of_ble_eq_true rfl) (Nat.le_of_ble_eq_true rfl) rfl rfl (k_starves (d := d + 47) hN hB (by omega) (by omega) (by omega) hI (fun h2 hb2 hI2 => ⟨_, rfl, ?_⟩))
  refine ax_icmp_eqT 1227 dL_law_737 (by decide +kernel) rfl ?_
  exact hq h2 o5 o6 (LJ.mk hN (hSI.mono (by omega)) hMI' hCP1 hb2 moP_r hI2 (hTp.mo hb2) (hPs.mo hb2) ⟨f7, (hb1.2.2 167 (by unfold trP ; omega)).trans e167⟩ (by rw [hb1.1]; exact s1) (by rw [hb1.1]; omega) (by rw [hb1.2.1]; exact Nat.le_trans s3 (Nat.le_add_right _ _)))
theorem law_purpose (hn : 7 * i + 7 ≤ gn G) (hg : gn G ≤ 3584) (hJ : LJ h i) (hq : ∀ h2 o5 o6, LJ h2 (i + 1) → X G (d + 60) mL_law 1227 [some (.ref 32), some (.ref 64), some (.ref 145), some (.ref 167), some (.int (nI (7 * i))), o5, o6] [] h2 Q) : X G (d + 60) mL_law 742 [some (.ref 32), some (.ref 64), some (.ref 145), some (.ref 167), some (.int (nI (7 * i))), o5, o6] [] h Q := by
  obtain ⟨N, σ, μ, tp, hN, hSI, hMI, hCP, ⟨⟨th, hI⟩, hTp, hPs⟩, ⟨f7, e167⟩, s1, s2, s3⟩ := hJ
  have hi : i ≤ 511 := by omega
  have hC := hCP.1
  obtain ⟨hB, h3, h7, h6⟩ := id hSI
  have hO : sOK N σ := hB.ok (by omega) (by omega)
  have hy0 : σ 0 0 < 2 ^ 30 := by have := hB.2.2.2.2; omega
  have e65 := hCP.2.2.1.1
  obtain ⟨⟨dr, e64⟩, -⟩ := id hC
  obtain ⟨si, pt, fa, co, nm, rd, bc, bm, gg, F, S, O, A, e145, -⟩ := id hI
  have hMI' : ∀ m τ, m < 4 → μ m = some τ → SI N τ (50 * i + 50) := fun m τ z1 z2 => (hMI m τ z1 z2).mono (by omega)
  refine ax_aload_n dL_law_742 rfl ?_
  refine ax_aload_n dL_law_743 rfl ?_
  refine ax_iload dL_law_744 rfl ?_
  refine ax_iconst dL_law_746 (v := nI 1) (by decide) ?_
  refine ax_iadd dL_law_747 ?_
  refine ax_scO dL_law_748 (sc_ix (k := 1) (by omega) hg) ?_
  refine ax_aload_n dL_law_749 rfl ?_
  refine ax_iload dL_law_750 rfl ?_
  refine ax_iconst dL_law_752 (v := nI 2) (by decide) ?_
  refine ax_iadd dL_law_753 ?_
  refine ax_scO dL_law_754 (sc_ix (k := 2) (by omega) hg) ?_
  refine ax_aload_n dL_law_755 rfl ?_
  refine ax_iload dL_law_756 rfl ?_
  refine ax_iconst dL_law_758 (v := nI 3) (by decide) ?_
  refine ax_iadd dL_law_759 ?_
  refine ax_scO dL_law_760 (sc_ix (k := 3) (by omega) hg) ?_
  refine ax_cV dL_law_761 mmX11_purpose lkL_90 miX11_purpose msX11_purpose (ax_recv_of e64 rfl) rfl rfl (Nat.le_of_ble_eq_true rfl) (Nat.le_of_ble_eq_true rfl) rfl rfl (c_purpose (d := d + 53) hN hB h3 (by omega) (by omega) (by omega) hC (fun h1 hb1 hC1 => ⟨_, rfl, ?_⟩))
  have w1 : ∀ j, trP j → wrK j := fun j z => by unfold trP at z; unfold wrK; omega
  have hCP1 := hCP.tr hb1.gw w1 hC1
  obtain ⟨⟨th1, hI⟩, hTp, hPs⟩ := MP.tr ⟨⟨th, hI⟩, hTp, hPs⟩ hb1.gw w1
  obtain ⟨si, pt, fa, co, nm, rd, bc, bm, gg, F, S, O, A, e145, -⟩ := id hI
  refine ax_aload_n dL_law_764 rfl ?_
  refine ax_aload_n dL_law_765 rfl ?_
  refine ax_iload dL_law_766 rfl ?_
  refine ax_iconst dL_law_768 (v := nI 1) (by decide) ?_
  refine ax_iadd dL_law_769 ?_
  refine ax_scO dL_law_770 (sc_ix (k := 1) (by omega) hg) ?_
  refine ax_aload_n dL_law_771 rfl ?_
  refine ax_iload dL_law_772 rfl ?_
  refine ax_iconst dL_law_774 (v := nI 2) (by decide) ?_
  refine ax_iadd dL_law_775 ?_
  refine ax_scO dL_law_776 (sc_ix (k := 2) (by omega) hg) ?_
  refine ax_aload_n dL_law_777 rfl ?_
  refine ax_iload dL_law_778 rfl ?_
  refine ax_iconst dL_law_780 (v := nI 3) (by decide) ?_
  refine ax_iadd dL_law_781 ?_
  refine ax_scO dL_law_782 (sc_ix (k := 3) (by omega) hg) ?_
  refine ax_cV dL_law_783 mmX12_purpose lkL_93 miX12_purpose msX12_purpose (ax_recv_of e145 rfl) rfl rfl (Nat.le_of_ble_eq_true rfl) (Nat.le_of_ble_eq_true rfl) rfl rfl (k_purpose (d := d + 46) hN h3 hB (by omega) (by omega) (by omega) hI (fun h2 hb2 hI2 => ⟨_, rfl, ?_⟩))
  refine ax_icmp_eqT 1227 dL_law_786 (by decide +kernel) rfl ?_
  exact hq h2 o5 o6 (LJ.mk hN (hSI.mono (by omega)) hMI' hCP1 hb2 moP_r hI2 (hTp.mo hb2) (hPs.mo hb2) ⟨f7, (hb1.2.2 167 (by unfold trP ; omega)).trans e167⟩ (by rw [hb1.1]; exact s1) (by rw [hb1.1]; omega) (by rw [hb1.2.1]; exact Nat.le_trans s3 (Nat.le_add_right _ _)))
theorem law_table (hn : 7 * i + 7 ≤ gn G) (hg : gn G ≤ 3584) (hJ : LJ h i) (hq : ∀ h2 o5 o6, LJ h2 (i + 1) → X G (d + 60) mL_law 1227 [some (.ref 32), some (.ref 64), some (.ref 145), some (.ref 167), some (.int (nI (7 * i))), o5, o6] [] h2 Q) : X G (d + 60) mL_law 791 [some (.ref 32), some (.ref 64), some (.ref 145), some (.ref 167), some (.int (nI (7 * i))), o5, o6] [] h Q := by
  obtain ⟨N, σ, μ, tp, hN, hSI, hMI, hCP, ⟨⟨th, hI⟩, hTp, hPs⟩, ⟨f7, e167⟩, s1, s2, s3⟩ := hJ
  have hi : i ≤ 511 := by omega
  have hC := hCP.1
  obtain ⟨hB, h3, h7, h6⟩ := id hSI
  have hO : sOK N σ := hB.ok (by omega) (by omega)
  have hy0 : σ 0 0 < 2 ^ 30 := by have := hB.2.2.2.2; omega
  have e65 := hCP.2.2.1.1
  obtain ⟨⟨dr, e64⟩, -⟩ := id hC
  obtain ⟨si, pt, fa, co, nm, rd, bc, bm, gg, F, S, O, A, e145, -⟩ := id hI
  have hMI' : ∀ m τ, m < 4 → μ m = some τ → SI N τ (50 * i + 50) := fun m τ z1 z2 => (hMI m τ z1 z2).mono (by omega)
  refine ax_aload_n dL_law_791 rfl ?_
  refine ax_aload_n dL_law_792 rfl ?_
  refine ax_iload dL_law_793 rfl ?_
  refine ax_iconst dL_law_795 (v := nI 1) (by decide) ?_
  refine ax_iadd dL_law_796 ?_
  refine ax_scO dL_law_797 (sc_ix (k := 1) (by omega) hg) ?_
  refine ax_aload_n dL_law_798 rfl ?_
  refine ax_iload dL_law_799 rfl ?_
  refine ax_iconst dL_law_801 (v := nI 2) (by decide) ?_
  refine ax_iadd dL_law_802 ?_
  refine ax_scO dL_law_803 (sc_ix (k := 2) (by omega) hg) ?_
  refine ax_cV dL_law_804 mmX11_table lkL_94 miX11_table msX11_table (ax_recv_of e64 rfl) rfl rfl (Nat.le_of_ble_eq_true rfl) (Nat.le_of_ble_eq_true rfl) rfl rfl (c_table (d := d + 52) hN hB (by omega) (by omega) (by omega) hC (fun h1 hb1 hC1 => ⟨_, rfl, ?_⟩))
  have w1 : ∀ j, trP j → wrK j := fun j z => by unfold trP at z; unfold wrK; omega
  have hCP1 := hCP.tr hb1.gw w1 hC1
  obtain ⟨⟨th1, hI⟩, hTp, hPs⟩ := MP.tr ⟨⟨th, hI⟩, hTp, hPs⟩ hb1.gw w1
  obtain ⟨si, pt, fa, co, nm, rd, bc, bm, gg, F, S, O, A, e145, -⟩ := id hI
  refine ax_aload_n dL_law_807 rfl ?_
  refine ax_aload_n dL_law_808 rfl ?_
  refine ax_iload dL_law_809 rfl ?_
  refine ax_iconst dL_law_811 (v := nI 1) (by decide) ?_
  refine ax_iadd dL_law_812 ?_
  refine ax_scO dL_law_813 (sc_ix (k := 1) (by omega) hg) ?_
  refine ax_aload_n dL_law_814 rfl ?_
  refine ax_iload dL_law_815 rfl ?_
  refine ax_iconst dL_law_817 (v := nI 2) (by decide) ?_
  refine ax_iadd dL_law_818 ?_
  refine ax_scO dL_law_819 (sc_ix (k := 2) (by omega) hg) ?_
  refine ax_cV dL_law_820 mmX12_table lkL_97 miX12_table msX12_table (ax_recv_of e145 rfl) rfl rfl (Nat.le_of_ble_eq_true rfl) (Nat.le_of_ble_eq_true rfl) rfl rfl (k_table (d := d + 46) hN hB (by omega) (by omega) (by omega) hI (fun h2 hb2 hI2 => ⟨_, rfl, ?_⟩))
  refine ax_icmp_eqT 1227 dL_law_823 (by decide +kernel) rfl ?_
  exact hq h2 o5 o6 (LJ.mk hN (hSI.mono (by omega)) hMI' hCP1 hb2 moP_r hI2 (hTp.mo hb2) (hPs.mo hb2) ⟨f7, (hb1.2.2 167 (by unfold trP ; omega)).trans e167⟩ (by rw [hb1.1]; exact s1) (by rw [hb1.1]; omega) (by rw [hb1.2.1]; exact Nat.le_trans s3 (Nat.le_add_right _ _)))
theorem law_went (hn : 7 * i + 7 ≤ gn G) (hg : gn G ≤ 3584) (hJ : LJ h i) (hq : ∀ h2 o5 o6, LJ h2 (i + 1) → X G (d + 60) mL_law 1227 [some (.ref 32), some (.ref 64), some (.ref 145), some (.ref 167), some (.int (nI (7 * i))), o5, o6] [] h2 Q) : X G (d + 60) mL_law 1051 [some (.ref 32), some (.ref 64), some (.ref 145), some (.ref 167), some (.int (nI (7 * i))), o5, o6] [] h Q := by
  obtain ⟨N, σ, μ, tp, hN, hSI, hMI, hCP, ⟨⟨th, hI⟩, hTp, hPs⟩, ⟨f7, e167⟩, s1, s2, s3⟩ := hJ
  have hi : i ≤ 511 := by omega
  have hC := hCP.1
  obtain ⟨hB, h3, h7, h6⟩ := id hSI
  have hO : sOK N σ := hB.ok (by omega) (by omega)
  have hy0 : σ 0 0 < 2 ^ 30 := by have := hB.2.2.2.2; omega
  have e65 := hCP.2.2.1.1
  obtain ⟨⟨dr, e64⟩, -⟩ := id hC
  obtain ⟨si, pt, fa, co, nm, rd, bc, bm, gg, F, S, O, A, e145, -⟩ := id hI
  have hMI' : ∀ m τ, m < 4 → μ m = some τ → SI N τ (50 * i + 50) := fun m τ z1 z2 => (hMI m τ z1 z2).mono (by omega)
  refine ax_aload_n dL_law_1051 rfl ?_
  refine ax_aload_n dL_law_1052 rfl ?_
  refine ax_iload dL_law_1053 rfl ?_
  refine ax_iconst dL_law_1055 (v := nI 1) (by decide) ?_
  refine ax_iadd dL_law_1056 ?_
  refine ax_scO dL_law_1057 (sc_ix (k := 1) (by omega) hg) ?_
  refine ax_aload_n dL_law_1058 rfl ?_
  refine ax_iload dL_law_1059 rfl ?_
  refine ax_iconst dL_law_1061 (v := nI 2) (by decide) ?_
  refine ax_iadd dL_law_1062 ?_
  refine ax_scO dL_law_1063 (sc_ix (k := 2) (by omega) hg) ?_
  refine ax_cV dL_law_1064 mmX11_went lkL_111 miX11_went msX11_went (ax_recv_of e64 rfl) rfl rfl (Nat.le_of_ble_eq_true rfl) (Nat.le_of_ble_eq_true rfl) rfl rfl (c_went (d := d + 55) hN hO h7 hC (fun h1 hb1 hC1 => ⟨_, rfl, ?_⟩))
  have w1 : ∀ j, trP j → wrK j := fun j z => by unfold trP at z; unfold wrK; omega
  have hCP1 := hCP.tr hb1.gw w1 hC1
  obtain ⟨⟨th1, hI⟩, hTp, hPs⟩ := MP.tr ⟨⟨th, hI⟩, hTp, hPs⟩ hb1.gw w1
  obtain ⟨si, pt, fa, co, nm, rd, bc, bm, gg, F, S, O, A, e145, -⟩ := id hI
  refine ax_aload_n dL_law_1067 rfl ?_
  refine ax_aload_n dL_law_1068 rfl ?_
  refine ax_iload dL_law_1069 rfl ?_
  refine ax_iconst dL_law_1071 (v := nI 1) (by decide) ?_
  refine ax_iadd dL_law_1072 ?_
  refine ax_scO dL_law_1073 (sc_ix (k := 1) (by omega) hg) ?_
  refine ax_aload_n dL_law_1074 rfl ?_
  refine ax_iload dL_law_1075 rfl ?_
  refine ax_iconst dL_law_1077 (v := nI 2) (by decide) ?_
  refine ax_iadd dL_law_1078 ?_
  refine ax_scO dL_law_1079 (sc_ix (k := 2) (by omega) hg) ?_
  refine ax_cV dL_law_1080 mmX12_went lkL_114 miX12_went msX12_went (ax_recv_of e145 rfl) rfl rfl (Nat.le_of_ble_eq_true rfl) (Nat.le_of_ble_eq_true rfl) rfl rfl (k_went (d := d + 54) hN hO h7 hI (fun h2 hb2 hI2 => ⟨_, rfl, ?_⟩))
  refine ax_icmp_eqT 1227 dL_law_1083 (by decide +kernel) rfl ?_
  exact hq h2 o5 o6 (LJ.mk hN (hSI.mono (by omega)) hMI' hCP1 hb2 moP_r hI2 (hTp.mo hb2) (hPs.mo hb2) ⟨f7, (hb1.2.2 167 (by unfold trP ; omega)).trans e167⟩ (by rw [hb1.1]; exact s1) (by rw [hb1.1]; omega) (by rw [hb1.2.1]; exact Nat.le_trans s3 (Nat.le_add_right _ _)))
theorem law_wars (hn : 7 * i + 7 ≤ gn G) (hg : gn G ≤ 3584) (hJ : LJ h i) (hq : ∀ h2 o5 o6, LJ h2 (i + 1) → X G (d + 60) mL_law 1227 [some (.ref 32), some (.ref 64), some (.ref 145), some (.ref 167), some (.int (nI (7 * i))), o5, o6] [] h2 Q) : X G (d + 60) mL_law 1088 [some (.ref 32), some (.ref 64), some (.ref 145), some (.ref 167), some (.int (nI (7 * i))), o5, o6] [] h Q := by
  obtain ⟨N, σ, μ, tp, hN, hSI, hMI, hCP, ⟨⟨th, hI⟩, hTp, hPs⟩, ⟨f7, e167⟩, s1, s2, s3⟩ := hJ
  have hi : i ≤ 511 := by omega
  have hC := hCP.1
  obtain ⟨hB, h3, h7, h6⟩ := id hSI
  have hO : sOK N σ := hB.ok (by omega) (by omega)
  have hy0 : σ 0 0 < 2 ^ 30 := by have := hB.2.2.2.2; omega
  have e65 := hCP.2.2.1.1
  obtain ⟨⟨dr, e64⟩, -⟩ := id hC
  obtain ⟨si, pt, fa, co, nm, rd, bc, bm, gg, F, S, O, A, e145, -⟩ := id hI
  have hMI' : ∀ m τ, m < 4 → μ m = some τ → SI N τ (50 * i + 50) := fun m τ z1 z2 => (hMI m τ z1 z2).mono (by omega)
  refine ax_aload_n dL_law_1088 rfl ?_
  refine ax_aload_n dL_law_1089 rfl ?_
  refine ax_iload dL_law_1090 rfl ?_
  refine ax_iconst dL_law_1092 (v := nI 1) (by decide) ?_
  refine ax_iadd dL_law_1093 ?_
  refine ax_scO dL_law_1094 (sc_ix (k := 1) (by omega) hg) ?_
  refine ax_aload_n dL_law_1095 rfl ?_
  refine ax_iload dL_law_1096 rfl ?_
  refine ax_iconst dL_law_1098 (v := nI 2) (by decide) ?_
  refine ax_iadd dL_law_1099 ?_
  refine ax_scO dL_law_1100 (sc_ix (k := 2) (by omega) hg) ?_
  refine ax_aload_n dL_law_1101 rfl ?_
  refine ax_iload dL_law_1102 rfl ?_
  refine ax_iconst dL_law_1104 (v := nI 3) (by decide) ?_
  refine ax_iadd dL_law_1105 ?_
  refine ax_scO dL_law_1106 (sc_ix (k := 3) (by omega) hg) ?_
  refine ax_aload_n dL_law_1107 rfl ?_
  refine ax_iload dL_law_1108 rfl ?_
  refine ax_iconst dL_law_1110 (v := nI 4) (by decide) ?_
  refine ax_iadd dL_law_1111 ?_
  refine ax_scO dL_law_1112 (sc_ix (k := 4) (by omega) hg) ?_
  refine ax_cV dL_law_1113 mmX11_wars lkL_115 miX11_wars msX11_wars (ax_recv_of e64 rfl) rfl rfl (Nat.le_of_ble_eq_true rfl) (Nat.le_of_ble_eq_true rfl) rfl rfl (c_wars (d := d + 53) hN hB (by omega) (by omega) (by omega) hC (fun h1 hb1 hC1 => ⟨_, rfl, ?_⟩))
  have w1 : ∀ j, waP j → wrK j := fun j z => by unfold waP trP at z; unfold wrK; omega
  have hCP1 := hCP.tr hb1.gw w1 hC1
  obtain ⟨⟨th1, hI⟩, hTp, hPs⟩ := MP.tr ⟨⟨th, hI⟩, hTp, hPs⟩ hb1.gw w1
  obtain ⟨si, pt, fa, co, nm, rd, bc, bm, gg, F, S, O, A, e145, -⟩ := id hI
  refine ax_aload_n dL_law_1116 rfl ?_
  refine ax_aload_n dL_law_1117 rfl ?_
  refine ax_iload dL_law_1118 rfl ?_
  refine ax_iconst dL_law_1120 (v := nI 1) (by decide) ?_
  refine ax_iadd dL_law_1121 ?_
  refine ax_scO dL_law_1122 (sc_ix (k := 1) (by omega) hg) ?_
  refine ax_aload_n dL_law_1123 rfl ?_
  refine ax_iload dL_law_1124 rfl ?_
  refine ax_iconst dL_law_1126 (v := nI 2) (by decide) ?_
  refine ax_iadd dL_law_1127 ?_
  refine ax_scO dL_law_1128 (sc_ix (k := 2) (by omega) hg) ?_
  refine ax_aload_n dL_law_1129 rfl ?_
  refine ax_iload dL_law_1130 rfl ?_
  refine ax_iconst dL_law_1132 (v := nI 3) (by decide) ?_
  refine ax_iadd dL_law_1133 ?_
  refine ax_scO dL_law_1134 (sc_ix (k := 3) (by omega) hg) ?_
  refine ax_aload_n dL_law_1135 rfl ?_
  refine ax_iload dL_law_1136 rfl ?_
  refine ax_iconst dL_law_1138 (v := nI 4) (by decide) ?_
  refine ax_iadd dL_law_1139 ?_
  refine ax_scO dL_law_1140 (sc_ix (k := 4) (by omega) hg) ?_
  refine ax_cV dL_law_1141 mmX12_wars lkL_119 miX12_wars msX12_wars (ax_recv_of e145 rfl) rfl rfl (Nat.le_of_ble_eq_true rfl) (Nat.le_of_ble_eq_true rfl) rfl rfl (k_wars (d := d + 46) hN hB (by omega) (by omega) (by omega) hI (fun h2 hb2 hI2 => ⟨_, rfl, ?_⟩))
  refine ax_icmp_eqT 1227 dL_law_1144 (by decide +kernel) rfl ?_
  exact hq h2 o5 o6 (LJ.mk hN (hSI.mono (by omega)) hMI' hCP1 hb2 moP_r hI2 (hTp.mo hb2) (hPs.mo hb2) ⟨f7, (hb1.2.2 167 (by unfold waP trP ; omega)).trans e167⟩ (by rw [hb1.1]; exact s1) (by rw [hb1.1]; omega) (by rw [hb1.2.1]; exact Nat.le_trans s3 (Nat.le_add_right _ _)))
theorem law_count (hn : 7 * i + 7 ≤ gn G) (hg : gn G ≤ 3584) (hJ : LJ h i) (hq : ∀ h2 o5 o6, LJ h2 (i + 1) → X G (d + 60) mL_law 1227 [some (.ref 32), some (.ref 64), some (.ref 145), some (.ref 167), some (.int (nI (7 * i))), o5, o6] [] h2 Q) : X G (d + 60) mL_law 1202 [some (.ref 32), some (.ref 64), some (.ref 145), some (.ref 167), some (.int (nI (7 * i))), o5, o6] [] h Q := by
  obtain ⟨N, σ, μ, tp, hN, hSI, hMI, hCP, ⟨⟨th, hI⟩, hTp, hPs⟩, ⟨f7, e167⟩, s1, s2, s3⟩ := hJ
  have hi : i ≤ 511 := by omega
  have hC := hCP.1
  obtain ⟨hB, h3, h7, h6⟩ := id hSI
  have hO : sOK N σ := hB.ok (by omega) (by omega)
  have hy0 : σ 0 0 < 2 ^ 30 := by have := hB.2.2.2.2; omega
  have e65 := hCP.2.2.1.1
  obtain ⟨⟨dr, e64⟩, -⟩ := id hC
  obtain ⟨si, pt, fa, co, nm, rd, bc, bm, gg, F, S, O, A, e145, -⟩ := id hI
  have hMI' : ∀ m τ, m < 4 → μ m = some τ → SI N τ (50 * i + 50) := fun m τ z1 z2 => (hMI m τ z1 z2).mono (by omega)
  refine ax_aload_n dL_law_1202 rfl ?_
  refine ax_aload_n dL_law_1203 rfl ?_
  refine ax_iload dL_law_1204 rfl ?_
  refine ax_iconst dL_law_1206 (v := nI 1) (by decide) ?_
  refine ax_iadd dL_law_1207 ?_
  refine ax_scO dL_law_1208 (sc_ix (k := 1) (by omega) hg) ?_
  refine ax_cV dL_law_1209 mmX11_count lkL_125 miX11_count msX11_count (ax_recv_of e64 rfl) rfl rfl (Nat.le_of_ble_eq_true rfl) (Nat.le_of_ble_eq_true rfl) rfl rfl (c_count (d := d + 57) hN hO e65 hC ⟨_, rfl, ?_⟩)
  refine ax_aload_n dL_law_1212 rfl ?_
  refine ax_aload_n dL_law_1213 rfl ?_
  refine ax_iload dL_law_1214 rfl ?_
  refine ax_iconst dL_law_1216 (v := nI 1) (by decide) ?_
  refine ax_iadd dL_law_1217 ?_
  refine ax_scO dL_law_1218 (sc_ix (k := 1) (by omega) hg) ?_
  refine ax_cV dL_law_1219 mmX12_count lkL_128 miX12_count msX12_count (ax_recv_of e145 rfl) rfl rfl (Nat.le_of_ble_eq_true rfl) (Nat.le_of_ble_eq_true rfl) rfl rfl (k_count (d := d + 57) (len := tp.length) rfl hN (fun r z => hO.1 r z) hI (fun h2 hb2 hI2 => ⟨_, rfl, ?_⟩))
  refine ax_icmp_eqT 1227 dL_law_1222 (by decide +kernel) rfl ?_
  exact hq h2 o5 o6 (LJ.mk hN (hSI.mono (by omega)) hMI' hCP hb2 moP_r hI2 (hTp.mo hb2) (hPs.mo hb2) ⟨f7, e167⟩ s1 (by omega) (Nat.le_trans s3 (Nat.le_add_right _ _)))
end CAS
