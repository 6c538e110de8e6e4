-- behind: 73.law0 71.dl1 71.dl2 71.dl3 71.dl4 71.dl5 71.dl6 71.dl7 71.dl8
-- what one call of the script does, on both sides
section T
variable (Γ : cG) {nm : String × List (Nat × Nat × Nat × Nat)} {σ : cAS} {x i k T C Z : Nat} {mm : mX}
set_option maxRecDepth 4000 in
theorem law_c0 (hi : i + 6 ≤ (gX Γ).2.1) (hN : (gX Γ).2.1 ≤ 4000) (hb : bd T C Z) (hs : SI σ x mm) (hv : inv T C Z mm) (hk : nxK Γ nm x i k T C Z) : WP Γ (12, 260, 40 * (k + 1), 512 * (k + 1)) (ML_law nm) lwO 312 (lwL Γ x i none none none none) [] σ := by
  obtain ⟨hx, hm, hd, ho⟩ := id hs
  have hI : inv (T + 1) (C + 18000) (Z + 2880) (q_appendInput mm ((gX Γ).2.2 (i + 1)) ((gX Γ).2.2 (i + 2)) ((gX Γ).2.2 (i + 3)) ((gX Γ).2.2 (i + 4)) ((gX Γ).2.2 (i + 5))).2.2 := q_appendInput_inv hv ((gX Γ).2.2 (i + 1)) ((gX Γ).2.2 (i + 2)) ((gX Γ).2.2 (i + 3)) ((gX Γ).2.2 (i + 4)) ((gX Γ).2.2 (i + 5))
  have hle := qappendInput_le mm ((gX Γ).2.2 (i + 1)) ((gX Γ).2.2 (i + 2)) ((gX Γ).2.2 (i + 3)) ((gX Γ).2.2 (i + 4)) ((gX Γ).2.2 (i + 5))
  refine WP.aload_n (pc := 312) dL_law_312 rfl ?_
  refine WP.aload_n (pc := 313) dL_law_313 rfl ?_
  refine WP.iload (pc := 314) dL_law_314 rfl ?_
  refine WP.iconst (pc := 316) (v := 1) dL_law_316 (by decide) ?_
  refine WP.iaN (pc := 317) (a := i) (b := 1) dL_law_317 ?_
  refine WP.xA (pc := 318) (i := i + 1) (by omega) (by omega) dL_law_318 ?_
  refine WP.aload_n (pc := 319) dL_law_319 rfl ?_
  refine WP.iload (pc := 320) dL_law_320 rfl ?_
  refine WP.iconst (pc := 322) (v := 2) dL_law_322 (by decide) ?_
  refine WP.iaN (pc := 323) (a := i) (b := 2) dL_law_323 ?_
  refine WP.xA (pc := 324) (i := i + 2) (by omega) (by omega) dL_law_324 ?_
  refine WP.aload_n (pc := 325) dL_law_325 rfl ?_
  refine WP.iload (pc := 326) dL_law_326 rfl ?_
  refine WP.iconst (pc := 328) (v := 3) dL_law_328 (by decide) ?_
  refine WP.iaN (pc := 329) (a := i) (b := 3) dL_law_329 ?_
  refine WP.xA (pc := 330) (i := i + 3) (by omega) (by omega) dL_law_330 ?_
  refine WP.aload_n (pc := 331) dL_law_331 rfl ?_
  refine WP.iload (pc := 332) dL_law_332 rfl ?_
  refine WP.iconst (pc := 334) (v := 4) dL_law_334 (by decide) ?_
  refine WP.iaN (pc := 335) (a := i) (b := 4) dL_law_335 ?_
  refine WP.xA (pc := 336) (i := i + 4) (by omega) (by omega) dL_law_336 ?_
  refine WP.aload_n (pc := 337) dL_law_337 rfl ?_
  refine WP.iload (pc := 338) dL_law_338 rfl ?_
  refine WP.iconst (pc := 340) (v := 5) dL_law_340 (by decide) ?_
  refine WP.iaN (pc := 341) (a := i) (b := 5) dL_law_341 ?_
  refine WP.xA (pc := 342) (i := i + 5) (by omega) (by omega) dL_law_342 ?_
  refine WP.aload_n (pc := 343) dL_law_343 rfl ?_
  refine WP.callSH (pc := 344) (mc2 := 40 * k) (ms2 := 512 * k) (M' := ML_appendInput) (List.cons_ne_nil _ _) kL_169 (CL_appendInput Γ hx ((gX Γ).2.2 (i + 1)) ((gX Γ).2.2 (i + 2)) ((gX Γ).2.2 (i + 3)) ((gX Γ).2.2 (i + 4)) ((gX Γ).2.2 (i + 5)) ho) rfl ⟨(Nat.le_of_ble_eq_true rfl), (Nat.le_of_ble_eq_true rfl)⟩ (by omega) (by omega) (Nat.le_of_ble_eq_true rfl) rfl dL_law_344 (fun v τ hw => ?_) (fun E τ hw => nomatch hw.1)
  obtain ⟨h1, h2, h3, h4⟩ := hw
  cases h1
  obtain ⟨hx2, hm2, hd2, ho2⟩ := hs.x h2 h3
  refine WP.istore (pc := 347) dL_law_347 (Nat.le_of_ble_eq_true rfl) rfl ?_
  refine WP.self ?_
  refine WP.aload_n (pc := 349) dL_law_349 rfl ?_
  refine WP.aload_n (pc := 350) dL_law_350 rfl ?_
  refine WP.iload (pc := 351) dL_law_351 rfl ?_
  refine WP.iconst (pc := 353) (v := 1) dL_law_353 (by decide) ?_
  refine WP.iaN (pc := 354) (a := i) (b := 1) dL_law_354 ?_
  refine WP.xA (pc := 355) (i := i + 1) (by omega) (by omega) dL_law_355 ?_
  refine WP.aload_n (pc := 356) dL_law_356 rfl ?_
  refine WP.iload (pc := 357) dL_law_357 rfl ?_
  refine WP.iconst (pc := 359) (v := 2) dL_law_359 (by decide) ?_
  refine WP.iaN (pc := 360) (a := i) (b := 2) dL_law_360 ?_
  refine WP.xA (pc := 361) (i := i + 2) (by omega) (by omega) dL_law_361 ?_
  refine WP.aload_n (pc := 362) dL_law_362 rfl ?_
  refine WP.iload (pc := 363) dL_law_363 rfl ?_
  refine WP.iconst (pc := 365) (v := 3) dL_law_365 (by decide) ?_
  refine WP.iaN (pc := 366) (a := i) (b := 3) dL_law_366 ?_
  refine WP.xA (pc := 367) (i := i + 3) (by omega) (by omega) dL_law_367 ?_
  refine WP.aload_n (pc := 368) dL_law_368 rfl ?_
  refine WP.iload (pc := 369) dL_law_369 rfl ?_
  refine WP.iconst (pc := 371) (v := 4) dL_law_371 (by decide) ?_
  refine WP.iaN (pc := 372) (a := i) (b := 4) dL_law_372 ?_
  refine WP.xA (pc := 373) (i := i + 4) (by omega) (by omega) dL_law_373 ?_
  refine WP.aload_n (pc := 374) dL_law_374 rfl ?_
  refine WP.iload (pc := 375) dL_law_375 rfl ?_
  refine WP.iconst (pc := 377) (v := 5) dL_law_377 (by decide) ?_
  refine WP.iaN (pc := 378) (a := i) (b := 5) dL_law_378 ?_
  refine WP.xA (pc := 379) (i := i + 5) (by omega) (by omega) dL_law_379 ?_
  refine WP.cVp (pc := 380) (mc2 := 40 * k) (ms2 := 512 * k) (ci := 9) kL_174 (CX9_appendInput Γ hm2 hd2 ((gX Γ).2.2 (i + 1)) ((gX Γ).2.2 (i + 2)) ((gX Γ).2.2 (i + 3)) ((gX Γ).2.2 (i + 4)) ((gX Γ).2.2 (i + 5))) (by decide) rfl hm2.t0 rfl ⟨(Nat.le_of_ble_eq_true rfl), (Nat.le_of_ble_eq_true rfl)⟩ (by omega) (by omega) (Nat.le_of_ble_eq_true rfl) rfl dL_law_380 (fun v I1 ⟨g1, g2, g3, g4⟩ => ?_)
  have h5 := SI.m hx2 hm2 ho2 g3 g4
  generalize q_appendInput mm ((gX Γ).2.2 (i + 1)) ((gX Γ).2.2 (i + 2)) ((gX Γ).2.2 (i + 3)) ((gX Γ).2.2 (i + 4)) ((gX Γ).2.2 (i + 5)) = q at *
  refine WP.istore (pc := 383) dL_law_383 (Nat.le_of_ble_eq_true rfl) rfl ?_
  refine WP.aload_n (pc := 385) dL_law_385 rfl ?_
  refine WP.cV1 (pc := 386) (mc2 := 40 * k) (ms2 := 512 * k) (ci := 9) kL_175 (CX9_thrown Γ hm2) (by decide) rfl hm2.t0 rfl ⟨(Nat.le_of_ble_eq_true rfl), (Nat.le_of_ble_eq_true rfl)⟩ (by omega) (by omega) (Nat.le_of_ble_eq_true rfl) rfl dL_law_386 ?_
  rw [g1]
  refine WP.iload (pc := 389) dL_law_389 rfl ?_
  refine WP.icmp_eq (pc := 391) (tgt := 396) dL_law_391 (by decide) (fun _ => ?_) (fun c => absurd rfl c)
  refine WP.iload (pc := 396) dL_law_396 rfl ?_
  have fin : ∀ L5 L6, WP Γ (12, 260, 40 * k, 512 * k) (ML_law nm) lwO 413 (lwL Γ x i L5 L6 none none) [] (wI τ I1) := fun L5 L6 => WP.goto (pc := 413) (tgt := 3458) dL_law_413 (by decide) (hk _ _ L5 L6 none none h5 hI)
  refine WP.if_ne (pc := 398) (tgt := 413) dL_law_398 (by decide) (fun _ => fin _ _) (fun c => ?_)
  have c0 : q.1 = 0 := (nI_eq (b := 0) (by omega) (by omega)).mp c
  refine WP.aload_n (pc := 401) dL_law_401 rfl ?_
  refine WP.iconst (pc := 402) (v := 0) dL_law_402 (by decide) ?_
  refine WP.laload (pc := 403) (a := x + 74) (n := 1) ho2 vp01 dL_law_403 ?_
  rw [show aL (wI τ I1) (x + 74) (Int32.toNatClampNeg 0) = q.2.1.toInt64 from h4 c0]
  refine WP.iload (pc := 404) dL_law_404 rfl ?_
  refine WP.i2l (pc := 406) dL_law_406 ?_
  rw [g2 c0]
  refine WP.lcmp (pc := 407) dL_law_407 ?_
  exact WP.if_eq (pc := 408) (tgt := 413) dL_law_408 (by decide) (fun _ => fin _ _) (fun c => absurd (lg_self _) c)
set_option maxRecDepth 4000 in
theorem law_c1 (hi : i + 6 ≤ (gX Γ).2.1) (hN : (gX Γ).2.1 ≤ 4000) (hb : bd T C Z) (hs : SI σ x mm) (hv : inv T C Z mm) (hk : nxK Γ nm x i k T C Z) : WP Γ (12, 260, 40 * (k + 1), 512 * (k + 1)) (ML_law nm) lwO 416 (lwL Γ x i none none none none) [] σ := by
  obtain ⟨hx, hm, hd, ho⟩ := id hs
  have hI : inv (T + 1) (C + 18000) (Z + 2880) (q_truncateInput mm ((gX Γ).2.2 (i + 1))).2.2 := q_truncateInput_inv hv ((gX Γ).2.2 (i + 1))
  have hle := qtruncateInput_le mm ((gX Γ).2.2 (i + 1))
  refine WP.aload_n (pc := 416) dL_law_416 rfl ?_
  refine WP.aload_n (pc := 417) dL_law_417 rfl ?_
  refine WP.iload (pc := 418) dL_law_418 rfl ?_
  refine WP.iconst (pc := 420) (v := 1) dL_law_420 (by decide) ?_
  refine WP.iaN (pc := 421) (a := i) (b := 1) dL_law_421 ?_
  refine WP.xA (pc := 422) (i := i + 1) (by omega) (by omega) dL_law_422 ?_
  refine WP.aload_n (pc := 423) dL_law_423 rfl ?_
  refine WP.callSH (pc := 424) (mc2 := 40 * k) (ms2 := 512 * k) (M' := ML_truncateInput) (List.cons_ne_nil _ _) kL_178 (CL_truncateInput Γ hx ((gX Γ).2.2 (i + 1)) ho) rfl ⟨(Nat.le_of_ble_eq_true rfl), (Nat.le_of_ble_eq_true rfl)⟩ (by omega) (by omega) (Nat.le_of_ble_eq_true rfl) rfl dL_law_424 (fun v τ hw => ?_) (fun E τ hw => nomatch hw.1)
  obtain ⟨h1, h2, h3, h4⟩ := hw
  cases h1
  obtain ⟨hx2, hm2, hd2, ho2⟩ := hs.x h2 h3
  refine WP.istore (pc := 427) dL_law_427 (Nat.le_of_ble_eq_true rfl) rfl ?_
  refine WP.self ?_
  refine WP.aload_n (pc := 429) dL_law_429 rfl ?_
  refine WP.aload_n (pc := 430) dL_law_430 rfl ?_
  refine WP.iload (pc := 431) dL_law_431 rfl ?_
  refine WP.iconst (pc := 433) (v := 1) dL_law_433 (by decide) ?_
  refine WP.iaN (pc := 434) (a := i) (b := 1) dL_law_434 ?_
  refine WP.xA (pc := 435) (i := i + 1) (by omega) (by omega) dL_law_435 ?_
  refine WP.cVp (pc := 436) (mc2 := 40 * k) (ms2 := 512 * k) (ci := 9) kL_181 (CX9_truncateInput Γ hm2 hd2 ((gX Γ).2.2 (i + 1))) (by decide) rfl hm2.t0 rfl ⟨(Nat.le_of_ble_eq_true rfl), (Nat.le_of_ble_eq_true rfl)⟩ (by omega) (by omega) (Nat.le_of_ble_eq_true rfl) rfl dL_law_436 (fun v I1 ⟨g1, g2, g3, g4⟩ => ?_)
  have h5 := SI.m hx2 hm2 ho2 g3 g4
  generalize q_truncateInput mm ((gX Γ).2.2 (i + 1)) = q at *
  refine WP.istore (pc := 439) dL_law_439 (Nat.le_of_ble_eq_true rfl) rfl ?_
  refine WP.aload_n (pc := 441) dL_law_441 rfl ?_
  refine WP.cV1 (pc := 442) (mc2 := 40 * k) (ms2 := 512 * k) (ci := 9) kL_175 (CX9_thrown Γ hm2) (by decide) rfl hm2.t0 rfl ⟨(Nat.le_of_ble_eq_true rfl), (Nat.le_of_ble_eq_true rfl)⟩ (by omega) (by omega) (Nat.le_of_ble_eq_true rfl) rfl dL_law_442 ?_
  rw [g1]
  refine WP.iload (pc := 445) dL_law_445 rfl ?_
  refine WP.icmp_eq (pc := 447) (tgt := 452) dL_law_447 (by decide) (fun _ => ?_) (fun c => absurd rfl c)
  refine WP.iload (pc := 452) dL_law_452 rfl ?_
  have fin : ∀ L5 L6, WP Γ (12, 260, 40 * k, 512 * k) (ML_law nm) lwO 469 (lwL Γ x i L5 L6 none none) [] (wI τ I1) := fun L5 L6 => WP.goto (pc := 469) (tgt := 3458) dL_law_469 (by decide) (hk _ _ L5 L6 none none h5 hI)
  refine WP.if_ne (pc := 454) (tgt := 469) dL_law_454 (by decide) (fun _ => fin _ _) (fun c => ?_)
  have c0 : q.1 = 0 := (nI_eq (b := 0) (by omega) (by omega)).mp c
  refine WP.aload_n (pc := 457) dL_law_457 rfl ?_
  refine WP.iconst (pc := 458) (v := 0) dL_law_458 (by decide) ?_
  refine WP.laload (pc := 459) (a := x + 74) (n := 1) ho2 vp01 dL_law_459 ?_
  rw [show aL (wI τ I1) (x + 74) (Int32.toNatClampNeg 0) = q.2.1.toInt64 from h4 c0]
  refine WP.iload (pc := 460) dL_law_460 rfl ?_
  refine WP.i2l (pc := 462) dL_law_462 ?_
  rw [g2 c0]
  refine WP.lcmp (pc := 463) dL_law_463 ?_
  exact WP.if_eq (pc := 464) (tgt := 469) dL_law_464 (by decide) (fun _ => fin _ _) (fun c => absurd (lg_self _) c)
set_option maxRecDepth 4000 in
theorem law_c2 (hi : i + 6 ≤ (gX Γ).2.1) (hN : (gX Γ).2.1 ≤ 4000) (hb : bd T C Z) (hs : SI σ x mm) (hv : inv T C Z mm) (hk : nxK Γ nm x i k T C Z) : WP Γ (12, 260, 40 * (k + 1), 512 * (k + 1)) (ML_law nm) lwO 472 (lwL Γ x i none none none none) [] σ := by
  obtain ⟨hx, hm, hd, ho⟩ := id hs
  have hI : inv (T + 1) (C + 18000) (Z + 2880) (q_load mm).2.2 := q_load_inv hb.1 hb.2.2.1 hb.2.2.2.2.1 hx.2.2.2.1.2.2.2.1 hv
  have hle := qload_le mm
  refine WP.aload_n (pc := 472) dL_law_472 rfl ?_
  refine WP.aload_n (pc := 473) dL_law_473 rfl ?_
  refine WP.callSH (pc := 474) (mc2 := 40 * k) (ms2 := 512 * k) (M' := ML_load) (List.cons_ne_nil _ _) kL_182 (CL_load Γ hx ho) rfl ⟨(Nat.le_of_ble_eq_true rfl), (Nat.le_of_ble_eq_true rfl)⟩ (by omega) (by omega) (Nat.le_of_ble_eq_true rfl) rfl dL_law_474 (fun v τ hw => ?_) (fun E τ hw => nomatch hw.1)
  obtain ⟨h1, h2, h3, h4⟩ := hw
  cases h1
  obtain ⟨hx2, hm2, hd2, ho2⟩ := hs.x h2 h3
  refine WP.istore (pc := 477) dL_law_477 (Nat.le_of_ble_eq_true rfl) rfl ?_
  refine WP.self ?_
  refine WP.aload_n (pc := 479) dL_law_479 rfl ?_
  refine WP.cVp (pc := 480) (mc2 := 40 * k) (ms2 := 512 * k) (ci := 9) kL_185 (CX9_load Γ hm2 hd2) (by decide) rfl hm2.t0 rfl ⟨(Nat.le_of_ble_eq_true rfl), (Nat.le_of_ble_eq_true rfl)⟩ (by omega) (by omega) (Nat.le_of_ble_eq_true rfl) rfl dL_law_480 (fun v I1 ⟨g1, g2, g3, g4⟩ => ?_)
  have h5 := SI.m hx2 hm2 ho2 g3 g4
  generalize q_load mm = q at *
  refine WP.istore (pc := 483) dL_law_483 (Nat.le_of_ble_eq_true rfl) rfl ?_
  refine WP.aload_n (pc := 485) dL_law_485 rfl ?_
  refine WP.cV1 (pc := 486) (mc2 := 40 * k) (ms2 := 512 * k) (ci := 9) kL_175 (CX9_thrown Γ hm2) (by decide) rfl hm2.t0 rfl ⟨(Nat.le_of_ble_eq_true rfl), (Nat.le_of_ble_eq_true rfl)⟩ (by omega) (by omega) (Nat.le_of_ble_eq_true rfl) rfl dL_law_486 ?_
  rw [g1]
  refine WP.iload (pc := 489) dL_law_489 rfl ?_
  refine WP.icmp_eq (pc := 491) (tgt := 496) dL_law_491 (by decide) (fun _ => ?_) (fun c => absurd rfl c)
  refine WP.iload (pc := 496) dL_law_496 rfl ?_
  have fin : ∀ L5 L6, WP Γ (12, 260, 40 * k, 512 * k) (ML_law nm) lwO 513 (lwL Γ x i L5 L6 none none) [] (wI τ I1) := fun L5 L6 => WP.goto (pc := 513) (tgt := 3458) dL_law_513 (by decide) (hk _ _ L5 L6 none none h5 hI)
  refine WP.if_ne (pc := 498) (tgt := 513) dL_law_498 (by decide) (fun _ => fin _ _) (fun c => ?_)
  have c0 : q.1 = 0 := (nI_eq (b := 0) (by omega) (by omega)).mp c
  refine WP.aload_n (pc := 501) dL_law_501 rfl ?_
  refine WP.iconst (pc := 502) (v := 0) dL_law_502 (by decide) ?_
  refine WP.laload (pc := 503) (a := x + 74) (n := 1) ho2 vp01 dL_law_503 ?_
  rw [show aL (wI τ I1) (x + 74) (Int32.toNatClampNeg 0) = q.2.1.toInt64 from h4 c0]
  refine WP.iload (pc := 504) dL_law_504 rfl ?_
  refine WP.i2l (pc := 506) dL_law_506 ?_
  rw [g2 c0]
  refine WP.lcmp (pc := 507) dL_law_507 ?_
  exact WP.if_eq (pc := 508) (tgt := 513) dL_law_508 (by decide) (fun _ => fin _ _) (fun c => absurd (lg_self _) c)
set_option maxRecDepth 4000 in
theorem law_c3 (hi : i + 6 ≤ (gX Γ).2.1) (hN : (gX Γ).2.1 ≤ 4000) (hb : bd T C Z) (hs : SI σ x mm) (hv : inv T C Z mm) (hk : nxK Γ nm x i k T C Z) : WP Γ (12, 260, 40 * (k + 1), 512 * (k + 1)) (ML_law nm) lwO 516 (lwL Γ x i none none none none) [] σ := by
  obtain ⟨hx, hm, hd, ho⟩ := id hs
  have hI : inv (T + 1) (C + 18000) (Z + 2880) (q_errorCode mm).2.2 := hv.up
  refine WP.aload_n (pc := 516) dL_law_516 rfl ?_
  refine WP.cXO (pc := 517) (mc2 := 40 * k) (ms2 := 512 * k) kL_186 (CX8_errorCode Γ hx) rfl hx.1.t0 rfl ⟨(Nat.le_of_ble_eq_true rfl), (Nat.le_of_ble_eq_true rfl)⟩ (by omega) (by omega) (Nat.le_of_ble_eq_true rfl) rfl dL_law_517 (fun τ h0 h2 h3 => ?_) (fun τ t h0 _ _ => absurd (show (0 : Nat) = t + 1 from h0) (by omega))
  obtain ⟨hx2, hm2, hd2, ho2⟩ := hs.x h2 (fun a c1 c2 => ⟨(h3 a c1 c2).1, (h3 a c1 c2).2.1, (h3 a c1 c2).2.2.1⟩)
  refine WP.self ?_
  refine WP.aload_n (pc := 520) dL_law_520 rfl ?_
  refine WP.cVp (pc := 521) (mc2 := 40 * k) (ms2 := 512 * k) (ci := 9) kL_189 (CX9_errorCode Γ hm2 hd2) (by decide) rfl hm2.t0 rfl ⟨(Nat.le_of_ble_eq_true rfl), (Nat.le_of_ble_eq_true rfl)⟩ (by omega) (by omega) (Nat.le_of_ble_eq_true rfl) rfl dL_law_521 (fun v I1 ⟨g1, g2, g3, g4⟩ => ?_)
  have h5 := SI.m hx2 hm2 ho2 g3 g4
  exact WP.icmp_eq (pc := 524) (tgt := 3458) dL_law_524 (by decide) (fun _ => hk _ _ none none none none h5 hI) (fun c => absurd (g2 h0).symm c)
set_option maxRecDepth 4000 in
theorem law_c4 (hi : i + 6 ≤ (gX Γ).2.1) (hN : (gX Γ).2.1 ≤ 4000) (hb : bd T C Z) (hs : SI σ x mm) (hv : inv T C Z mm) (hk : nxK Γ nm x i k T C Z) : WP Γ (12, 260, 40 * (k + 1), 512 * (k + 1)) (ML_law nm) lwO 529 (lwL Γ x i none none none none) [] σ := by
  obtain ⟨hx, hm, hd, ho⟩ := id hs
  have hI : inv (T + 1) (C + 18000) (Z + 2880) (q_errorPosition mm).2.2 := hv.up
  refine WP.aload_n (pc := 529) dL_law_529 rfl ?_
  refine WP.cXO (pc := 530) (mc2 := 40 * k) (ms2 := 512 * k) kL_190 (CX8_errorPosition Γ hx) rfl hx.1.t0 rfl ⟨(Nat.le_of_ble_eq_true rfl), (Nat.le_of_ble_eq_true rfl)⟩ (by omega) (by omega) (Nat.le_of_ble_eq_true rfl) rfl dL_law_530 (fun τ h0 h2 h3 => ?_) (fun τ t h0 _ _ => absurd (show (0 : Nat) = t + 1 from h0) (by omega))
  obtain ⟨hx2, hm2, hd2, ho2⟩ := hs.x h2 (fun a c1 c2 => ⟨(h3 a c1 c2).1, (h3 a c1 c2).2.1, (h3 a c1 c2).2.2.1⟩)
  refine WP.self ?_
  refine WP.aload_n (pc := 533) dL_law_533 rfl ?_
  refine WP.cVp (pc := 534) (mc2 := 40 * k) (ms2 := 512 * k) (ci := 9) kL_193 (CX9_errorPosition Γ hm2 hd2) (by decide) rfl hm2.t0 rfl ⟨(Nat.le_of_ble_eq_true rfl), (Nat.le_of_ble_eq_true rfl)⟩ (by omega) (by omega) (Nat.le_of_ble_eq_true rfl) rfl dL_law_534 (fun v I1 ⟨g1, g2, g3, g4⟩ => ?_)
  have h5 := SI.m hx2 hm2 ho2 g3 g4
  exact WP.icmp_eq (pc := 537) (tgt := 3458) dL_law_537 (by decide) (fun _ => hk _ _ none none none none h5 hI) (fun c => absurd (g2 h0).symm c)
set_option maxRecDepth 4000 in
theorem law_c5 (hi : i + 6 ≤ (gX Γ).2.1) (hN : (gX Γ).2.1 ≤ 4000) (hb : bd T C Z) (hs : SI σ x mm) (hv : inv T C Z mm) (hk : nxK Γ nm x i k T C Z) : WP Γ (12, 260, 40 * (k + 1), 512 * (k + 1)) (ML_law nm) lwO 542 (lwL Γ x i none none none none) [] σ := by
  obtain ⟨hx, hm, hd, ho⟩ := id hs
  have hI : inv (T + 1) (C + 18000) (Z + 2880) (q_hour mm).2.2 := hv.up
  refine WP.aload_n (pc := 542) dL_law_542 rfl ?_
  refine WP.cXO (pc := 543) (mc2 := 40 * k) (ms2 := 512 * k) kL_194 (CX8_hour Γ hx) rfl hx.1.t0 rfl ⟨(Nat.le_of_ble_eq_true rfl), (Nat.le_of_ble_eq_true rfl)⟩ (by omega) (by omega) (Nat.le_of_ble_eq_true rfl) rfl dL_law_543 (fun τ h0 h2 h3 => ?_) (fun τ t h0 _ _ => absurd (show (0 : Nat) = t + 1 from h0) (by omega))
  obtain ⟨hx2, hm2, hd2, ho2⟩ := hs.x h2 (fun a c1 c2 => ⟨(h3 a c1 c2).1, (h3 a c1 c2).2.1, (h3 a c1 c2).2.2.1⟩)
  refine WP.self ?_
  refine WP.aload_n (pc := 546) dL_law_546 rfl ?_
  refine WP.cVp (pc := 547) (mc2 := 40 * k) (ms2 := 512 * k) (ci := 9) kL_197 (CX9_hour Γ hm2 hd2) (by decide) rfl hm2.t0 rfl ⟨(Nat.le_of_ble_eq_true rfl), (Nat.le_of_ble_eq_true rfl)⟩ (by omega) (by omega) (Nat.le_of_ble_eq_true rfl) rfl dL_law_547 (fun v I1 ⟨g1, g2, g3, g4⟩ => ?_)
  have h5 := SI.m hx2 hm2 ho2 g3 g4
  exact WP.icmp_eq (pc := 550) (tgt := 3458) dL_law_550 (by decide) (fun _ => hk _ _ none none none none h5 hI) (fun c => absurd (g2 h0).symm c)
set_option maxRecDepth 4000 in
theorem law_c6 (hi : i + 6 ≤ (gX Γ).2.1) (hN : (gX Γ).2.1 ≤ 4000) (hb : bd T C Z) (hs : SI σ x mm) (hv : inv T C Z mm) (hk : nxK Γ nm x i k T C Z) : WP Γ (12, 260, 40 * (k + 1), 512 * (k + 1)) (ML_law nm) lwO 555 (lwL Γ x i none none none none) [] σ := by
  obtain ⟨hx, hm, hd, ho⟩ := id hs
  have hI : inv (T + 1) (C + 18000) (Z + 2880) (q_bakerCount mm).2.2 := hv.up
  refine WP.aload_n (pc := 555) dL_law_555 rfl ?_
  refine WP.cXO (pc := 556) (mc2 := 40 * k) (ms2 := 512 * k) kL_198 (CX8_bakerCount Γ hx) rfl hx.1.t0 rfl ⟨(Nat.le_of_ble_eq_true rfl), (Nat.le_of_ble_eq_true rfl)⟩ (by omega) (by omega) (Nat.le_of_ble_eq_true rfl) rfl dL_law_556 (fun τ h0 h2 h3 => ?_) (fun τ t h0 _ _ => absurd (show (0 : Nat) = t + 1 from h0) (by omega))
  obtain ⟨hx2, hm2, hd2, ho2⟩ := hs.x h2 (fun a c1 c2 => ⟨(h3 a c1 c2).1, (h3 a c1 c2).2.1, (h3 a c1 c2).2.2.1⟩)
  refine WP.self ?_
  refine WP.aload_n (pc := 559) dL_law_559 rfl ?_
  refine WP.cVp (pc := 560) (mc2 := 40 * k) (ms2 := 512 * k) (ci := 9) kL_201 (CX9_bakerCount Γ hm2 hd2) (by decide) rfl hm2.t0 rfl ⟨(Nat.le_of_ble_eq_true rfl), (Nat.le_of_ble_eq_true rfl)⟩ (by omega) (by omega) (Nat.le_of_ble_eq_true rfl) rfl dL_law_560 (fun v I1 ⟨g1, g2, g3, g4⟩ => ?_)
  have h5 := SI.m hx2 hm2 ho2 g3 g4
  exact WP.icmp_eq (pc := 563) (tgt := 3458) dL_law_563 (by decide) (fun _ => hk _ _ none none none none h5 hI) (fun c => absurd (g2 h0).symm c)
set_option maxRecDepth 4000 in
theorem law_c7 (hi : i + 6 ≤ (gX Γ).2.1) (hN : (gX Γ).2.1 ≤ 4000) (hb : bd T C Z) (hs : SI σ x mm) (hv : inv T C Z mm) (hk : nxK Γ nm x i k T C Z) : WP Γ (12, 260, 40 * (k + 1), 512 * (k + 1)) (ML_law nm) lwO 568 (lwL Γ x i none none none none) [] σ := by
  obtain ⟨hx, hm, hd, ho⟩ := id hs
  have hI : inv (T + 1) (C + 18000) (Z + 2880) (q_customerCount mm).2.2 := hv.up
  refine WP.aload_n (pc := 568) dL_law_568 rfl ?_
  refine WP.cXO (pc := 569) (mc2 := 40 * k) (ms2 := 512 * k) kL_202 (CX8_customerCount Γ hx) rfl hx.1.t0 rfl ⟨(Nat.le_of_ble_eq_true rfl), (Nat.le_of_ble_eq_true rfl)⟩ (by omega) (by omega) (Nat.le_of_ble_eq_true rfl) rfl dL_law_569 (fun τ h0 h2 h3 => ?_) (fun τ t h0 _ _ => absurd (show (0 : Nat) = t + 1 from h0) (by omega))
  obtain ⟨hx2, hm2, hd2, ho2⟩ := hs.x h2 (fun a c1 c2 => ⟨(h3 a c1 c2).1, (h3 a c1 c2).2.1, (h3 a c1 c2).2.2.1⟩)
  refine WP.self ?_
  refine WP.aload_n (pc := 572) dL_law_572 rfl ?_
  refine WP.cVp (pc := 573) (mc2 := 40 * k) (ms2 := 512 * k) (ci := 9) kL_205 (CX9_customerCount Γ hm2 hd2) (by decide) rfl hm2.t0 rfl ⟨(Nat.le_of_ble_eq_true rfl), (Nat.le_of_ble_eq_true rfl)⟩ (by omega) (by omega) (Nat.le_of_ble_eq_true rfl) rfl dL_law_573 (fun v I1 ⟨g1, g2, g3, g4⟩ => ?_)
  have h5 := SI.m hx2 hm2 ho2 g3 g4
  exact WP.icmp_eq (pc := 576) (tgt := 3458) dL_law_576 (by decide) (fun _ => hk _ _ none none none none h5 hI) (fun c => absurd (g2 h0).symm c)
end T
