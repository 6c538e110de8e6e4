-- behind: 73.law0 71.dl1 71.dl2 71.dl3 71.dl4 71.dl5 71.dl6 71.dl7 71.dl8
-- what one call of the script does, on both sides
section T
variable (Γ : cG) {nm : String × List (Nat × Nat × Nat × Nat)} {σ : cAS} {x i k T C Z : Nat} {mm : mX}
set_option maxRecDepth 4000 in
theorem law_c24 (hi : i + 6 ≤ (gX Γ).2.1) (hN : (gX Γ).2.1 ≤ 4000) (hb : bd T C Z) (hs : SI σ x mm) (hv : inv T C Z mm) (hk : nxK Γ nm x i k T C Z) : WP Γ (12, 260, 40 * (k + 1), 512 * (k + 1)) (ML_law nm) lwO 1384 (lwL Γ x i none none none none) [] σ := by
  obtain ⟨hx, hm, hd, ho⟩ := id hs
  have hI : inv (T + 1) (C + 18000) (Z + 2880) (q_customerWithTicket mm ((gX Γ).2.2 (i + 1))).2.2 := hv.up
  refine WP.aload_n (pc := 1384) dL_law_1384 rfl ?_
  refine WP.aload_n (pc := 1385) dL_law_1385 rfl ?_
  refine WP.iload (pc := 1386) dL_law_1386 rfl ?_
  refine WP.iconst (pc := 1388) (v := 1) dL_law_1388 (by decide) ?_
  refine WP.iaN (pc := 1389) (a := i) (b := 1) dL_law_1389 ?_
  refine WP.xA (pc := 1390) (i := i + 1) (by omega) (by omega) dL_law_1390 ?_
  refine WP.cXO (pc := 1391) (mc2 := 40 * k) (ms2 := 512 * k) kL_258 (CX8_customerWithTicket Γ hx ((gX Γ).2.2 (i + 1))) rfl hx.1.t0 rfl ⟨(Nat.le_of_ble_eq_true rfl), (Nat.le_of_ble_eq_true rfl)⟩ (by omega) (by omega) (Nat.le_of_ble_eq_true rfl) rfl dL_law_1391 (fun τ h0 h2 h3 => ?_) (fun τ t h0 _ _ => absurd (show (0 : Nat) = t + 1 from h0) (by omega))
  obtain ⟨hx2, hm2, hd2, ho2⟩ := hs.x h2 (fun a c1 c2 => ⟨(h3 a c1 c2).1, (h3 a c1 c2).2.1, (h3 a c1 c2).2.2.1⟩)
  refine WP.self ?_
  refine WP.aload_n (pc := 1394) dL_law_1394 rfl ?_
  refine WP.aload_n (pc := 1395) dL_law_1395 rfl ?_
  refine WP.iload (pc := 1396) dL_law_1396 rfl ?_
  refine WP.iconst (pc := 1398) (v := 1) dL_law_1398 (by decide) ?_
  refine WP.iaN (pc := 1399) (a := i) (b := 1) dL_law_1399 ?_
  refine WP.xA (pc := 1400) (i := i + 1) (by omega) (by omega) dL_law_1400 ?_
  refine WP.cVp (pc := 1401) (mc2 := 40 * k) (ms2 := 512 * k) (ci := 9) kL_261 (CX9_customerWithTicket Γ hm2 hd2 ((gX Γ).2.2 (i + 1))) (by decide) rfl hm2.t0 rfl ⟨(Nat.le_of_ble_eq_true rfl), (Nat.le_of_ble_eq_true rfl)⟩ (by omega) (by omega) (Nat.le_of_ble_eq_true rfl) rfl dL_law_1401 (fun v I1 ⟨g1, g2, g3, g4⟩ => ?_)
  have h5 := SI.m hx2 hm2 ho2 g3 g4
  exact WP.icmp_eq (pc := 1404) (tgt := 3458) dL_law_1404 (by decide) (fun _ => hk _ _ none none none none h5 hI) (fun c => absurd (g2 h0).symm c)
set_option maxRecDepth 4000 in
theorem law_c25 (hi : i + 6 ≤ (gX Γ).2.1) (hN : (gX Γ).2.1 ≤ 4000) (hb : bd T C Z) (hs : SI σ x mm) (hv : inv T C Z mm) (hk : nxK Γ nm x i k T C Z) : WP Γ (12, 260, 40 * (k + 1), 512 * (k + 1)) (ML_law nm) lwO 1409 (lwL Γ x i none none none none) [] σ := by
  obtain ⟨hx, hm, hd, ho⟩ := id hs
  have hI : inv (T + 1) (C + 18000) (Z + 2880) (q_loafKind mm ((gX Γ).2.2 (i + 1))).2.2 := by
    unfold q_loafKind
    repeat' split
    all_goals exact hv.up
  have hle := qloafKind_le mm ((gX Γ).2.2 (i + 1))
  refine WP.aload_n (pc := 1409) dL_law_1409 rfl ?_
  refine WP.aload_n (pc := 1410) dL_law_1410 rfl ?_
  refine WP.iload (pc := 1411) dL_law_1411 rfl ?_
  refine WP.iconst (pc := 1413) (v := 1) dL_law_1413 (by decide) ?_
  refine WP.iaN (pc := 1414) (a := i) (b := 1) dL_law_1414 ?_
  refine WP.xA (pc := 1415) (i := i + 1) (by omega) (by omega) dL_law_1415 ?_
  refine WP.aload_n (pc := 1416) dL_law_1416 rfl ?_
  refine WP.callSH (pc := 1417) (mc2 := 40 * k) (ms2 := 512 * k) (M' := ML_loafKind) (List.cons_ne_nil _ _) kL_262 (CL_loafKind Γ hx ((gX Γ).2.2 (i + 1)) ho) rfl ⟨(Nat.le_of_ble_eq_true rfl), (Nat.le_of_ble_eq_true rfl)⟩ (by omega) (by omega) (Nat.le_of_ble_eq_true rfl) rfl dL_law_1417 (fun v τ hw => ?_) (fun E τ hw => nomatch hw.1)
  obtain ⟨h1, h2, h3, h4⟩ := hw
  cases h1
  obtain ⟨hx2, hm2, hd2, ho2⟩ := hs.x h2 h3
  refine WP.istore (pc := 1420) dL_law_1420 (Nat.le_of_ble_eq_true rfl) rfl ?_
  refine WP.self ?_
  refine WP.aload_n (pc := 1422) dL_law_1422 rfl ?_
  refine WP.aload_n (pc := 1423) dL_law_1423 rfl ?_
  refine WP.iload (pc := 1424) dL_law_1424 rfl ?_
  refine WP.iconst (pc := 1426) (v := 1) dL_law_1426 (by decide) ?_
  refine WP.iaN (pc := 1427) (a := i) (b := 1) dL_law_1427 ?_
  refine WP.xA (pc := 1428) (i := i + 1) (by omega) (by omega) dL_law_1428 ?_
  refine WP.cVp (pc := 1429) (mc2 := 40 * k) (ms2 := 512 * k) (ci := 9) kL_264 (CX9_loafKind Γ hm2 hd2 ((gX Γ).2.2 (i + 1))) (by decide) rfl hm2.t0 rfl ⟨(Nat.le_of_ble_eq_true rfl), (Nat.le_of_ble_eq_true rfl)⟩ (by omega) (by omega) (Nat.le_of_ble_eq_true rfl) rfl dL_law_1429 (fun v I1 ⟨g1, g2, g3, g4⟩ => ?_)
  have h5 := SI.m hx2 hm2 ho2 g3 g4
  generalize q_loafKind mm ((gX Γ).2.2 (i + 1)) = q at *
  refine WP.istore (pc := 1432) dL_law_1432 (Nat.le_of_ble_eq_true rfl) rfl ?_
  refine WP.aload_n (pc := 1434) dL_law_1434 rfl ?_
  refine WP.cV1 (pc := 1435) (mc2 := 40 * k) (ms2 := 512 * k) (ci := 9) kL_175 (CX9_thrown Γ hm2) (by decide) rfl hm2.t0 rfl ⟨(Nat.le_of_ble_eq_true rfl), (Nat.le_of_ble_eq_true rfl)⟩ (by omega) (by omega) (Nat.le_of_ble_eq_true rfl) rfl dL_law_1435 ?_
  rw [g1]
  refine WP.iload (pc := 1438) dL_law_1438 rfl ?_
  refine WP.icmp_eq (pc := 1440) (tgt := 1445) dL_law_1440 (by decide) (fun _ => ?_) (fun c => absurd rfl c)
  refine WP.iload (pc := 1445) dL_law_1445 rfl ?_
  have fin : ∀ L5 L6, WP Γ (12, 260, 40 * k, 512 * k) (ML_law nm) lwO 1462 (lwL Γ x i L5 L6 none none) [] (wI τ I1) := fun L5 L6 => WP.goto (pc := 1462) (tgt := 3458) dL_law_1462 (by decide) (hk _ _ L5 L6 none none h5 hI)
  refine WP.if_ne (pc := 1447) (tgt := 1462) dL_law_1447 (by decide) (fun _ => fin _ _) (fun c => ?_)
  have c0 : q.1 = 0 := (nI_eq (b := 0) (by omega) (by omega)).mp c
  refine WP.aload_n (pc := 1450) dL_law_1450 rfl ?_
  refine WP.iconst (pc := 1451) (v := 0) dL_law_1451 (by decide) ?_
  refine WP.laload (pc := 1452) (a := x + 74) (n := 1) ho2 vp01 dL_law_1452 ?_
  rw [show aL (wI τ I1) (x + 74) (Int32.toNatClampNeg 0) = q.2.1.toInt64 from h4 c0]
  refine WP.iload (pc := 1453) dL_law_1453 rfl ?_
  refine WP.i2l (pc := 1455) dL_law_1455 ?_
  rw [g2 c0]
  refine WP.lcmp (pc := 1456) dL_law_1456 ?_
  exact WP.if_eq (pc := 1457) (tgt := 1462) dL_law_1457 (by decide) (fun _ => fin _ _) (fun c => absurd (lg_self _) c)
set_option maxRecDepth 4000 in
theorem law_c26 (hi : i + 6 ≤ (gX Γ).2.1) (hN : (gX Γ).2.1 ≤ 4000) (hb : bd T C Z) (hs : SI σ x mm) (hv : inv T C Z mm) (hk : nxK Γ nm x i k T C Z) : WP Γ (12, 260, 40 * (k + 1), 512 * (k + 1)) (ML_law nm) lwO 1465 (lwL Γ x i none none none none) [] σ := by
  obtain ⟨hx, hm, hd, ho⟩ := id hs
  have hI : inv (T + 1) (C + 18000) (Z + 2880) (q_loafBaker mm ((gX Γ).2.2 (i + 1))).2.2 := by
    unfold q_loafBaker
    repeat' split
    all_goals exact hv.up
  have hle := qloafBaker_le mm ((gX Γ).2.2 (i + 1))
  refine WP.aload_n (pc := 1465) dL_law_1465 rfl ?_
  refine WP.aload_n (pc := 1466) dL_law_1466 rfl ?_
  refine WP.iload (pc := 1467) dL_law_1467 rfl ?_
  refine WP.iconst (pc := 1469) (v := 1) dL_law_1469 (by decide) ?_
  refine WP.iaN (pc := 1470) (a := i) (b := 1) dL_law_1470 ?_
  refine WP.xA (pc := 1471) (i := i + 1) (by omega) (by omega) dL_law_1471 ?_
  refine WP.aload_n (pc := 1472) dL_law_1472 rfl ?_
  refine WP.callSH (pc := 1473) (mc2 := 40 * k) (ms2 := 512 * k) (M' := ML_loafBaker) (List.cons_ne_nil _ _) kL_265 (CL_loafBaker Γ hx ((gX Γ).2.2 (i + 1)) ho) rfl ⟨(Nat.le_of_ble_eq_true rfl), (Nat.le_of_ble_eq_true rfl)⟩ (by omega) (by omega) (Nat.le_of_ble_eq_true rfl) rfl dL_law_1473 (fun v τ hw => ?_) (fun E τ hw => nomatch hw.1)
  obtain ⟨h1, h2, h3, h4⟩ := hw
  cases h1
  obtain ⟨hx2, hm2, hd2, ho2⟩ := hs.x h2 h3
  refine WP.istore (pc := 1476) dL_law_1476 (Nat.le_of_ble_eq_true rfl) rfl ?_
  refine WP.self ?_
  refine WP.aload_n (pc := 1478) dL_law_1478 rfl ?_
  refine WP.aload_n (pc := 1479) dL_law_1479 rfl ?_
  refine WP.iload (pc := 1480) dL_law_1480 rfl ?_
  refine WP.iconst (pc := 1482) (v := 1) dL_law_1482 (by decide) ?_
  refine WP.iaN (pc := 1483) (a := i) (b := 1) dL_law_1483 ?_
  refine WP.xA (pc := 1484) (i := i + 1) (by omega) (by omega) dL_law_1484 ?_
  refine WP.cVp (pc := 1485) (mc2 := 40 * k) (ms2 := 512 * k) (ci := 9) kL_267 (CX9_loafBaker Γ hm2 hd2 ((gX Γ).2.2 (i + 1))) (by decide) rfl hm2.t0 rfl ⟨(Nat.le_of_ble_eq_true rfl), (Nat.le_of_ble_eq_true rfl)⟩ (by omega) (by omega) (Nat.le_of_ble_eq_true rfl) rfl dL_law_1485 (fun v I1 ⟨g1, g2, g3, g4⟩ => ?_)
  have h5 := SI.m hx2 hm2 ho2 g3 g4
  generalize q_loafBaker mm ((gX Γ).2.2 (i + 1)) = q at *
  refine WP.istore (pc := 1488) dL_law_1488 (Nat.le_of_ble_eq_true rfl) rfl ?_
  refine WP.aload_n (pc := 1490) dL_law_1490 rfl ?_
  refine WP.cV1 (pc := 1491) (mc2 := 40 * k) (ms2 := 512 * k) (ci := 9) kL_175 (CX9_thrown Γ hm2) (by decide) rfl hm2.t0 rfl ⟨(Nat.le_of_ble_eq_true rfl), (Nat.le_of_ble_eq_true rfl)⟩ (by omega) (by omega) (Nat.le_of_ble_eq_true rfl) rfl dL_law_1491 ?_
  rw [g1]
  refine WP.iload (pc := 1494) dL_law_1494 rfl ?_
  refine WP.icmp_eq (pc := 1496) (tgt := 1501) dL_law_1496 (by decide) (fun _ => ?_) (fun c => absurd rfl c)
  refine WP.iload (pc := 1501) dL_law_1501 rfl ?_
  have fin : ∀ L5 L6, WP Γ (12, 260, 40 * k, 512 * k) (ML_law nm) lwO 1518 (lwL Γ x i L5 L6 none none) [] (wI τ I1) := fun L5 L6 => WP.goto (pc := 1518) (tgt := 3458) dL_law_1518 (by decide) (hk _ _ L5 L6 none none h5 hI)
  refine WP.if_ne (pc := 1503) (tgt := 1518) dL_law_1503 (by decide) (fun _ => fin _ _) (fun c => ?_)
  have c0 : q.1 = 0 := (nI_eq (b := 0) (by omega) (by omega)).mp c
  refine WP.aload_n (pc := 1506) dL_law_1506 rfl ?_
  refine WP.iconst (pc := 1507) (v := 0) dL_law_1507 (by decide) ?_
  refine WP.laload (pc := 1508) (a := x + 74) (n := 1) ho2 vp01 dL_law_1508 ?_
  rw [show aL (wI τ I1) (x + 74) (Int32.toNatClampNeg 0) = q.2.1.toInt64 from h4 c0]
  refine WP.iload (pc := 1509) dL_law_1509 rfl ?_
  refine WP.i2l (pc := 1511) dL_law_1511 ?_
  rw [g2 c0]
  refine WP.lcmp (pc := 1512) dL_law_1512 ?_
  exact WP.if_eq (pc := 1513) (tgt := 1518) dL_law_1513 (by decide) (fun _ => fin _ _) (fun c => absurd (lg_self _) c)
set_option maxRecDepth 4000 in
theorem law_c27 (hi : i + 6 ≤ (gX Γ).2.1) (hN : (gX Γ).2.1 ≤ 4000) (hb : bd T C Z) (hs : SI σ x mm) (hv : inv T C Z mm) (hk : nxK Γ nm x i k T C Z) : WP Γ (12, 260, 40 * (k + 1), 512 * (k + 1)) (ML_law nm) lwO 1521 (lwL Γ x i none none none none) [] σ := by
  obtain ⟨hx, hm, hd, ho⟩ := id hs
  have hI : inv (T + 1) (C + 18000) (Z + 2880) (q_loafAge mm ((gX Γ).2.2 (i + 1))).2.2 := by
    unfold q_loafAge
    repeat' split
    all_goals exact hv.up
  have hle := qloafAge_le mm ((gX Γ).2.2 (i + 1))
  refine WP.aload_n (pc := 1521) dL_law_1521 rfl ?_
  refine WP.aload_n (pc := 1522) dL_law_1522 rfl ?_
  refine WP.iload (pc := 1523) dL_law_1523 rfl ?_
  refine WP.iconst (pc := 1525) (v := 1) dL_law_1525 (by decide) ?_
  refine WP.iaN (pc := 1526) (a := i) (b := 1) dL_law_1526 ?_
  refine WP.xA (pc := 1527) (i := i + 1) (by omega) (by omega) dL_law_1527 ?_
  refine WP.aload_n (pc := 1528) dL_law_1528 rfl ?_
  refine WP.callSH (pc := 1529) (mc2 := 40 * k) (ms2 := 512 * k) (M' := ML_loafAge) (List.cons_ne_nil _ _) kL_268 (CL_loafAge Γ hx ((gX Γ).2.2 (i + 1)) ho) rfl ⟨(Nat.le_of_ble_eq_true rfl), (Nat.le_of_ble_eq_true rfl)⟩ (by omega) (by omega) (Nat.le_of_ble_eq_true rfl) rfl dL_law_1529 (fun v τ hw => ?_) (fun E τ hw => nomatch hw.1)
  obtain ⟨h1, h2, h3, h4⟩ := hw
  cases h1
  obtain ⟨hx2, hm2, hd2, ho2⟩ := hs.x h2 h3
  refine WP.istore (pc := 1532) dL_law_1532 (Nat.le_of_ble_eq_true rfl) rfl ?_
  refine WP.self ?_
  refine WP.aload_n (pc := 1534) dL_law_1534 rfl ?_
  refine WP.aload_n (pc := 1535) dL_law_1535 rfl ?_
  refine WP.iload (pc := 1536) dL_law_1536 rfl ?_
  refine WP.iconst (pc := 1538) (v := 1) dL_law_1538 (by decide) ?_
  refine WP.iaN (pc := 1539) (a := i) (b := 1) dL_law_1539 ?_
  refine WP.xA (pc := 1540) (i := i + 1) (by omega) (by omega) dL_law_1540 ?_
  refine WP.cVp (pc := 1541) (mc2 := 40 * k) (ms2 := 512 * k) (ci := 9) kL_270 (CX9_loafAge Γ hm2 hd2 ((gX Γ).2.2 (i + 1))) (by decide) rfl hm2.t0 rfl ⟨(Nat.le_of_ble_eq_true rfl), (Nat.le_of_ble_eq_true rfl)⟩ (by omega) (by omega) (Nat.le_of_ble_eq_true rfl) rfl dL_law_1541 (fun v I1 ⟨g1, g2, g3, g4⟩ => ?_)
  have h5 := SI.m hx2 hm2 ho2 g3 g4
  generalize q_loafAge mm ((gX Γ).2.2 (i + 1)) = q at *
  refine WP.istore (pc := 1544) dL_law_1544 (Nat.le_of_ble_eq_true rfl) rfl ?_
  refine WP.aload_n (pc := 1546) dL_law_1546 rfl ?_
  refine WP.cV1 (pc := 1547) (mc2 := 40 * k) (ms2 := 512 * k) (ci := 9) kL_175 (CX9_thrown Γ hm2) (by decide) rfl hm2.t0 rfl ⟨(Nat.le_of_ble_eq_true rfl), (Nat.le_of_ble_eq_true rfl)⟩ (by omega) (by omega) (Nat.le_of_ble_eq_true rfl) rfl dL_law_1547 ?_
  rw [g1]
  refine WP.iload (pc := 1550) dL_law_1550 rfl ?_
  refine WP.icmp_eq (pc := 1552) (tgt := 1557) dL_law_1552 (by decide) (fun _ => ?_) (fun c => absurd rfl c)
  refine WP.iload (pc := 1557) dL_law_1557 rfl ?_
  have fin : ∀ L5 L6, WP Γ (12, 260, 40 * k, 512 * k) (ML_law nm) lwO 1574 (lwL Γ x i L5 L6 none none) [] (wI τ I1) := fun L5 L6 => WP.goto (pc := 1574) (tgt := 3458) dL_law_1574 (by decide) (hk _ _ L5 L6 none none h5 hI)
  refine WP.if_ne (pc := 1559) (tgt := 1574) dL_law_1559 (by decide) (fun _ => fin _ _) (fun c => ?_)
  have c0 : q.1 = 0 := (nI_eq (b := 0) (by omega) (by omega)).mp c
  refine WP.aload_n (pc := 1562) dL_law_1562 rfl ?_
  refine WP.iconst (pc := 1563) (v := 0) dL_law_1563 (by decide) ?_
  refine WP.laload (pc := 1564) (a := x + 74) (n := 1) ho2 vp01 dL_law_1564 ?_
  rw [show aL (wI τ I1) (x + 74) (Int32.toNatClampNeg 0) = q.2.1.toInt64 from h4 c0]
  refine WP.iload (pc := 1565) dL_law_1565 rfl ?_
  refine WP.i2l (pc := 1567) dL_law_1567 ?_
  rw [g2 c0]
  refine WP.lcmp (pc := 1568) dL_law_1568 ?_
  exact WP.if_eq (pc := 1569) (tgt := 1574) dL_law_1569 (by decide) (fun _ => fin _ _) (fun c => absurd (lg_self _) c)
set_option maxRecDepth 4000 in
theorem law_c28 (hi : i + 6 ≤ (gX Γ).2.1) (hN : (gX Γ).2.1 ≤ 4000) (hb : bd T C Z) (hs : SI σ x mm) (hv : inv T C Z mm) (hk : nxK Γ nm x i k T C Z) : WP Γ (12, 260, 40 * (k + 1), 512 * (k + 1)) (ML_law nm) lwO 1577 (lwL Γ x i none none none none) [] σ := by
  obtain ⟨hx, hm, hd, ho⟩ := id hs
  have hI : inv (T + 1) (C + 18000) (Z + 2880) (q_reservePrice mm ((gX Γ).2.2 (i + 1))).2.2 := by
    unfold q_reservePrice
    repeat' split
    all_goals exact hv.up
  have hle := qreservePrice_le mm ((gX Γ).2.2 (i + 1))
  refine WP.aload_n (pc := 1577) dL_law_1577 rfl ?_
  refine WP.aload_n (pc := 1578) dL_law_1578 rfl ?_
  refine WP.iload (pc := 1579) dL_law_1579 rfl ?_
  refine WP.iconst (pc := 1581) (v := 1) dL_law_1581 (by decide) ?_
  refine WP.iaN (pc := 1582) (a := i) (b := 1) dL_law_1582 ?_
  refine WP.xA (pc := 1583) (i := i + 1) (by omega) (by omega) dL_law_1583 ?_
  refine WP.aload_n (pc := 1584) dL_law_1584 rfl ?_
  refine WP.callSH (pc := 1585) (mc2 := 40 * k) (ms2 := 512 * k) (M' := ML_reservePrice) (List.cons_ne_nil _ _) kL_271 (CL_reservePrice Γ hx ((gX Γ).2.2 (i + 1)) ho) rfl ⟨(Nat.le_of_ble_eq_true rfl), (Nat.le_of_ble_eq_true rfl)⟩ (by omega) (by omega) (Nat.le_of_ble_eq_true rfl) rfl dL_law_1585 (fun v τ hw => ?_) (fun E τ hw => nomatch hw.1)
  obtain ⟨h1, h2, h3, h4⟩ := hw
  cases h1
  obtain ⟨hx2, hm2, hd2, ho2⟩ := hs.x h2 h3
  refine WP.istore (pc := 1588) dL_law_1588 (Nat.le_of_ble_eq_true rfl) rfl ?_
  refine WP.self ?_
  refine WP.aload_n (pc := 1590) dL_law_1590 rfl ?_
  refine WP.aload_n (pc := 1591) dL_law_1591 rfl ?_
  refine WP.iload (pc := 1592) dL_law_1592 rfl ?_
  refine WP.iconst (pc := 1594) (v := 1) dL_law_1594 (by decide) ?_
  refine WP.iaN (pc := 1595) (a := i) (b := 1) dL_law_1595 ?_
  refine WP.xA (pc := 1596) (i := i + 1) (by omega) (by omega) dL_law_1596 ?_
  refine WP.cVp (pc := 1597) (mc2 := 40 * k) (ms2 := 512 * k) (ci := 9) kL_273 (CX9_reservePrice Γ hm2 hd2 hv.1.1 ((gX Γ).2.2 (i + 1))) (by decide) rfl hm2.t0 rfl ⟨(Nat.le_of_ble_eq_true rfl), (Nat.le_of_ble_eq_true rfl)⟩ (by omega) (by omega) (Nat.le_of_ble_eq_true rfl) rfl dL_law_1597 (fun v I1 ⟨g1, g2, g3, g4⟩ => ?_)
  have h5 := SI.m hx2 hm2 ho2 g3 g4
  generalize q_reservePrice mm ((gX Γ).2.2 (i + 1)) = q at *
  refine WP.istore (pc := 1600) dL_law_1600 (Nat.le_of_ble_eq_true rfl) rfl ?_
  refine WP.aload_n (pc := 1602) dL_law_1602 rfl ?_
  refine WP.cV1 (pc := 1603) (mc2 := 40 * k) (ms2 := 512 * k) (ci := 9) kL_175 (CX9_thrown Γ hm2) (by decide) rfl hm2.t0 rfl ⟨(Nat.le_of_ble_eq_true rfl), (Nat.le_of_ble_eq_true rfl)⟩ (by omega) (by omega) (Nat.le_of_ble_eq_true rfl) rfl dL_law_1603 ?_
  rw [g1]
  refine WP.iload (pc := 1606) dL_law_1606 rfl ?_
  refine WP.icmp_eq (pc := 1608) (tgt := 1613) dL_law_1608 (by decide) (fun _ => ?_) (fun c => absurd rfl c)
  refine WP.iload (pc := 1613) dL_law_1613 rfl ?_
  have fin : ∀ L5 L6, WP Γ (12, 260, 40 * k, 512 * k) (ML_law nm) lwO 1630 (lwL Γ x i L5 L6 none none) [] (wI τ I1) := fun L5 L6 => WP.goto (pc := 1630) (tgt := 3458) dL_law_1630 (by decide) (hk _ _ L5 L6 none none h5 hI)
  refine WP.if_ne (pc := 1615) (tgt := 1630) dL_law_1615 (by decide) (fun _ => fin _ _) (fun c => ?_)
  have c0 : q.1 = 0 := (nI_eq (b := 0) (by omega) (by omega)).mp c
  refine WP.aload_n (pc := 1618) dL_law_1618 rfl ?_
  refine WP.iconst (pc := 1619) (v := 0) dL_law_1619 (by decide) ?_
  refine WP.laload (pc := 1620) (a := x + 74) (n := 1) ho2 vp01 dL_law_1620 ?_
  rw [show aL (wI τ I1) (x + 74) (Int32.toNatClampNeg 0) = q.2.1.toInt64 from h4 c0]
  refine WP.iload (pc := 1621) dL_law_1621 rfl ?_
  refine WP.i2l (pc := 1623) dL_law_1623 ?_
  rw [g2 c0]
  refine WP.lcmp (pc := 1624) dL_law_1624 ?_
  exact WP.if_eq (pc := 1625) (tgt := 1630) dL_law_1625 (by decide) (fun _ => fin _ _) (fun c => absurd (lg_self _) c)
set_option maxRecDepth 4000 in
theorem law_c29 (hi : i + 6 ≤ (gX Γ).2.1) (hN : (gX Γ).2.1 ≤ 4000) (hb : bd T C Z) (hs : SI σ x mm) (hv : inv T C Z mm) (hk : nxK Γ nm x i k T C Z) : WP Γ (12, 260, 40 * (k + 1), 512 * (k + 1)) (ML_law nm) lwO 1633 (lwL Γ x i none none none none) [] σ := by
  obtain ⟨hx, hm, hd, ho⟩ := id hs
  have hI : inv (T + 1) (C + 18000) (Z + 2880) (q_hoursUntilStale mm ((gX Γ).2.2 (i + 1))).2.2 := by
    unfold q_hoursUntilStale
    repeat' split
    all_goals exact hv.up
  have hle := qhoursUntilStale_le mm ((gX Γ).2.2 (i + 1))
  refine WP.aload_n (pc := 1633) dL_law_1633 rfl ?_
  refine WP.aload_n (pc := 1634) dL_law_1634 rfl ?_
  refine WP.iload (pc := 1635) dL_law_1635 rfl ?_
  refine WP.iconst (pc := 1637) (v := 1) dL_law_1637 (by decide) ?_
  refine WP.iaN (pc := 1638) (a := i) (b := 1) dL_law_1638 ?_
  refine WP.xA (pc := 1639) (i := i + 1) (by omega) (by omega) dL_law_1639 ?_
  refine WP.aload_n (pc := 1640) dL_law_1640 rfl ?_
  refine WP.callSH (pc := 1641) (mc2 := 40 * k) (ms2 := 512 * k) (M' := ML_hoursUntilStale) (List.cons_ne_nil _ _) kL_274 (CL_hoursUntilStale Γ hx ((gX Γ).2.2 (i + 1)) ho) rfl ⟨(Nat.le_of_ble_eq_true rfl), (Nat.le_of_ble_eq_true rfl)⟩ (by omega) (by omega) (Nat.le_of_ble_eq_true rfl) rfl dL_law_1641 (fun v τ hw => ?_) (fun E τ hw => nomatch hw.1)
  obtain ⟨h1, h2, h3, h4⟩ := hw
  cases h1
  obtain ⟨hx2, hm2, hd2, ho2⟩ := hs.x h2 h3
  refine WP.istore (pc := 1644) dL_law_1644 (Nat.le_of_ble_eq_true rfl) rfl ?_
  refine WP.self ?_
  refine WP.aload_n (pc := 1646) dL_law_1646 rfl ?_
  refine WP.aload_n (pc := 1647) dL_law_1647 rfl ?_
  refine WP.iload (pc := 1648) dL_law_1648 rfl ?_
  refine WP.iconst (pc := 1650) (v := 1) dL_law_1650 (by decide) ?_
  refine WP.iaN (pc := 1651) (a := i) (b := 1) dL_law_1651 ?_
  refine WP.xA (pc := 1652) (i := i + 1) (by omega) (by omega) dL_law_1652 ?_
  refine WP.cVp (pc := 1653) (mc2 := 40 * k) (ms2 := 512 * k) (ci := 9) kL_276 (CX9_hoursUntilStale Γ hm2 hd2 hv.1.1 ((gX Γ).2.2 (i + 1))) (by decide) rfl hm2.t0 rfl ⟨(Nat.le_of_ble_eq_true rfl), (Nat.le_of_ble_eq_true rfl)⟩ (by omega) (by omega) (Nat.le_of_ble_eq_true rfl) rfl dL_law_1653 (fun v I1 ⟨g1, g2, g3, g4⟩ => ?_)
  have h5 := SI.m hx2 hm2 ho2 g3 g4
  generalize q_hoursUntilStale mm ((gX Γ).2.2 (i + 1)) = q at *
  refine WP.istore (pc := 1656) dL_law_1656 (Nat.le_of_ble_eq_true rfl) rfl ?_
  refine WP.aload_n (pc := 1658) dL_law_1658 rfl ?_
  refine WP.cV1 (pc := 1659) (mc2 := 40 * k) (ms2 := 512 * k) (ci := 9) kL_175 (CX9_thrown Γ hm2) (by decide) rfl hm2.t0 rfl ⟨(Nat.le_of_ble_eq_true rfl), (Nat.le_of_ble_eq_true rfl)⟩ (by omega) (by omega) (Nat.le_of_ble_eq_true rfl) rfl dL_law_1659 ?_
  rw [g1]
  refine WP.iload (pc := 1662) dL_law_1662 rfl ?_
  refine WP.icmp_eq (pc := 1664) (tgt := 1669) dL_law_1664 (by decide) (fun _ => ?_) (fun c => absurd rfl c)
  refine WP.iload (pc := 1669) dL_law_1669 rfl ?_
  have fin : ∀ L5 L6, WP Γ (12, 260, 40 * k, 512 * k) (ML_law nm) lwO 1686 (lwL Γ x i L5 L6 none none) [] (wI τ I1) := fun L5 L6 => WP.goto (pc := 1686) (tgt := 3458) dL_law_1686 (by decide) (hk _ _ L5 L6 none none h5 hI)
  refine WP.if_ne (pc := 1671) (tgt := 1686) dL_law_1671 (by decide) (fun _ => fin _ _) (fun c => ?_)
  have c0 : q.1 = 0 := (nI_eq (b := 0) (by omega) (by omega)).mp c
  refine WP.aload_n (pc := 1674) dL_law_1674 rfl ?_
  refine WP.iconst (pc := 1675) (v := 0) dL_law_1675 (by decide) ?_
  refine WP.laload (pc := 1676) (a := x + 74) (n := 1) ho2 vp01 dL_law_1676 ?_
  rw [show aL (wI τ I1) (x + 74) (Int32.toNatClampNeg 0) = q.2.1.toInt64 from h4 c0]
  refine WP.iload (pc := 1677) dL_law_1677 rfl ?_
  refine WP.i2l (pc := 1679) dL_law_1679 ?_
  rw [g2 c0]
  refine WP.lcmp (pc := 1680) dL_law_1680 ?_
  exact WP.if_eq (pc := 1681) (tgt := 1686) dL_law_1681 (by decide) (fun _ => fin _ _) (fun c => absurd (lg_self _) c)
set_option maxRecDepth 4000 in
theorem law_c30 (hi : i + 6 ≤ (gX Γ).2.1) (hN : (gX Γ).2.1 ≤ 4000) (hb : bd T C Z) (hs : SI σ x mm) (hv : inv T C Z mm) (hk : nxK Γ nm x i k T C Z) : WP Γ (12, 260, 40 * (k + 1), 512 * (k + 1)) (ML_law nm) lwO 1689 (lwL Γ x i none none none none) [] σ := by
  obtain ⟨hx, hm, hd, ho⟩ := id hs
  have hI : inv (T + 1) (C + 18000) (Z + 2880) (q_basePrice mm ((gX Γ).2.2 (i + 1))).2.2 := by
    unfold q_basePrice
    repeat' split
    all_goals exact hv.up
  have hle := qbasePrice_le mm ((gX Γ).2.2 (i + 1))
  refine WP.aload_n (pc := 1689) dL_law_1689 rfl ?_
  refine WP.aload_n (pc := 1690) dL_law_1690 rfl ?_
  refine WP.iload (pc := 1691) dL_law_1691 rfl ?_
  refine WP.iconst (pc := 1693) (v := 1) dL_law_1693 (by decide) ?_
  refine WP.iaN (pc := 1694) (a := i) (b := 1) dL_law_1694 ?_
  refine WP.xA (pc := 1695) (i := i + 1) (by omega) (by omega) dL_law_1695 ?_
  refine WP.aload_n (pc := 1696) dL_law_1696 rfl ?_
  refine WP.callSH (pc := 1697) (mc2 := 40 * k) (ms2 := 512 * k) (M' := ML_basePrice) (List.cons_ne_nil _ _) kL_277 (CL_basePrice Γ hx ((gX Γ).2.2 (i + 1)) ho) rfl ⟨(Nat.le_of_ble_eq_true rfl), (Nat.le_of_ble_eq_true rfl)⟩ (by omega) (by omega) (Nat.le_of_ble_eq_true rfl) rfl dL_law_1697 (fun v τ hw => ?_) (fun E τ hw => nomatch hw.1)
  obtain ⟨h1, h2, h3, h4⟩ := hw
  cases h1
  obtain ⟨hx2, hm2, hd2, ho2⟩ := hs.x h2 h3
  refine WP.istore (pc := 1700) dL_law_1700 (Nat.le_of_ble_eq_true rfl) rfl ?_
  refine WP.self ?_
  refine WP.aload_n (pc := 1702) dL_law_1702 rfl ?_
  refine WP.aload_n (pc := 1703) dL_law_1703 rfl ?_
  refine WP.iload (pc := 1704) dL_law_1704 rfl ?_
  refine WP.iconst (pc := 1706) (v := 1) dL_law_1706 (by decide) ?_
  refine WP.iaN (pc := 1707) (a := i) (b := 1) dL_law_1707 ?_
  refine WP.xA (pc := 1708) (i := i + 1) (by omega) (by omega) dL_law_1708 ?_
  refine WP.cVp (pc := 1709) (mc2 := 40 * k) (ms2 := 512 * k) (ci := 9) kL_279 (CX9_basePrice Γ hm2 hd2 ((gX Γ).2.2 (i + 1))) (by decide) rfl hm2.t0 rfl ⟨(Nat.le_of_ble_eq_true rfl), (Nat.le_of_ble_eq_true rfl)⟩ (by omega) (by omega) (Nat.le_of_ble_eq_true rfl) rfl dL_law_1709 (fun v I1 ⟨g1, g2, g3, g4⟩ => ?_)
  have h5 := SI.m hx2 hm2 ho2 g3 g4
  generalize q_basePrice mm ((gX Γ).2.2 (i + 1)) = q at *
  refine WP.istore (pc := 1712) dL_law_1712 (Nat.le_of_ble_eq_true rfl) rfl ?_
  refine WP.aload_n (pc := 1714) dL_law_1714 rfl ?_
  refine WP.cV1 (pc := 1715) (mc2 := 40 * k) (ms2 := 512 * k) (ci := 9) kL_175 (CX9_thrown Γ hm2) (by decide) rfl hm2.t0 rfl ⟨(Nat.le_of_ble_eq_true rfl), (Nat.le_of_ble_eq_true rfl)⟩ (by omega) (by omega) (Nat.le_of_ble_eq_true rfl) rfl dL_law_1715 ?_
  rw [g1]
  refine WP.iload (pc := 1718) dL_law_1718 rfl ?_
  refine WP.icmp_eq (pc := 1720) (tgt := 1725) dL_law_1720 (by decide) (fun _ => ?_) (fun c => absurd rfl c)
  refine WP.iload (pc := 1725) dL_law_1725 rfl ?_
  have fin : ∀ L5 L6, WP Γ (12, 260, 40 * k, 512 * k) (ML_law nm) lwO 1742 (lwL Γ x i L5 L6 none none) [] (wI τ I1) := fun L5 L6 => WP.goto (pc := 1742) (tgt := 3458) dL_law_1742 (by decide) (hk _ _ L5 L6 none none h5 hI)
  refine WP.if_ne (pc := 1727) (tgt := 1742) dL_law_1727 (by decide) (fun _ => fin _ _) (fun c => ?_)
  have c0 : q.1 = 0 := (nI_eq (b := 0) (by omega) (by omega)).mp c
  refine WP.aload_n (pc := 1730) dL_law_1730 rfl ?_
  refine WP.iconst (pc := 1731) (v := 0) dL_law_1731 (by decide) ?_
  refine WP.laload (pc := 1732) (a := x + 74) (n := 1) ho2 vp01 dL_law_1732 ?_
  rw [show aL (wI τ I1) (x + 74) (Int32.toNatClampNeg 0) = q.2.1.toInt64 from h4 c0]
  refine WP.iload (pc := 1733) dL_law_1733 rfl ?_
  refine WP.i2l (pc := 1735) dL_law_1735 ?_
  rw [g2 c0]
  refine WP.lcmp (pc := 1736) dL_law_1736 ?_
  exact WP.if_eq (pc := 1737) (tgt := 1742) dL_law_1737 (by decide) (fun _ => fin _ _) (fun c => absurd (lg_self _) c)
set_option maxRecDepth 4000 in
theorem law_c31 (hi : i + 6 ≤ (gX Γ).2.1) (hN : (gX Γ).2.1 ≤ 4000) (hb : bd T C Z) (hs : SI σ x mm) (hv : inv T C Z mm) (hk : nxK Γ nm x i k T C Z) : WP Γ (12, 260, 40 * (k + 1), 512 * (k + 1)) (ML_law nm) lwO 1745 (lwL Γ x i none none none none) [] σ := by
  obtain ⟨hx, hm, hd, ho⟩ := id hs
  have hI : inv (T + 1) (C + 18000) (Z + 2880) (q_reserveAt mm ((gX Γ).2.2 (i + 1)) ((gX Γ).2.2 (i + 2))).2.2 := by
    unfold q_reserveAt
    repeat' split
    all_goals exact hv.up
  have hle := qreserveAt_le mm ((gX Γ).2.2 (i + 1)) ((gX Γ).2.2 (i + 2))
  refine WP.aload_n (pc := 1745) dL_law_1745 rfl ?_
  refine WP.aload_n (pc := 1746) dL_law_1746 rfl ?_
  refine WP.iload (pc := 1747) dL_law_1747 rfl ?_
  refine WP.iconst (pc := 1749) (v := 1) dL_law_1749 (by decide) ?_
  refine WP.iaN (pc := 1750) (a := i) (b := 1) dL_law_1750 ?_
  refine WP.xA (pc := 1751) (i := i + 1) (by omega) (by omega) dL_law_1751 ?_
  refine WP.aload_n (pc := 1752) dL_law_1752 rfl ?_
  refine WP.iload (pc := 1753) dL_law_1753 rfl ?_
  refine WP.iconst (pc := 1755) (v := 2) dL_law_1755 (by decide) ?_
  refine WP.iaN (pc := 1756) (a := i) (b := 2) dL_law_1756 ?_
  refine WP.xA (pc := 1757) (i := i + 2) (by omega) (by omega) dL_law_1757 ?_
  refine WP.aload_n (pc := 1758) dL_law_1758 rfl ?_
  refine WP.callSH (pc := 1759) (mc2 := 40 * k) (ms2 := 512 * k) (M' := ML_reserveAt) (List.cons_ne_nil _ _) kL_280 (CL_reserveAt Γ hx ((gX Γ).2.2 (i + 1)) ((gX Γ).2.2 (i + 2)) ho) rfl ⟨(Nat.le_of_ble_eq_true rfl), (Nat.le_of_ble_eq_true rfl)⟩ (by omega) (by omega) (Nat.le_of_ble_eq_true rfl) rfl dL_law_1759 (fun v τ hw => ?_) (fun E τ hw => nomatch hw.1)
  obtain ⟨h1, h2, h3, h4⟩ := hw
  cases h1
  obtain ⟨hx2, hm2, hd2, ho2⟩ := hs.x h2 h3
  refine WP.istore (pc := 1762) dL_law_1762 (Nat.le_of_ble_eq_true rfl) rfl ?_
  refine WP.self ?_
  refine WP.aload_n (pc := 1764) dL_law_1764 rfl ?_
  refine WP.aload_n (pc := 1765) dL_law_1765 rfl ?_
  refine WP.iload (pc := 1766) dL_law_1766 rfl ?_
  refine WP.iconst (pc := 1768) (v := 1) dL_law_1768 (by decide) ?_
  refine WP.iaN (pc := 1769) (a := i) (b := 1) dL_law_1769 ?_
  refine WP.xA (pc := 1770) (i := i + 1) (by omega) (by omega) dL_law_1770 ?_
  refine WP.aload_n (pc := 1771) dL_law_1771 rfl ?_
  refine WP.iload (pc := 1772) dL_law_1772 rfl ?_
  refine WP.iconst (pc := 1774) (v := 2) dL_law_1774 (by decide) ?_
  refine WP.iaN (pc := 1775) (a := i) (b := 2) dL_law_1775 ?_
  refine WP.xA (pc := 1776) (i := i + 2) (by omega) (by omega) dL_law_1776 ?_
  refine WP.cVp (pc := 1777) (mc2 := 40 * k) (ms2 := 512 * k) (ci := 9) kL_282 (CX9_reserveAt Γ hm2 hd2 hv.1.1 ((gX Γ).2.2 (i + 1)) ((gX Γ).2.2 (i + 2))) (by decide) rfl hm2.t0 rfl ⟨(Nat.le_of_ble_eq_true rfl), (Nat.le_of_ble_eq_true rfl)⟩ (by omega) (by omega) (Nat.le_of_ble_eq_true rfl) rfl dL_law_1777 (fun v I1 ⟨g1, g2, g3, g4⟩ => ?_)
  have h5 := SI.m hx2 hm2 ho2 g3 g4
  generalize q_reserveAt mm ((gX Γ).2.2 (i + 1)) ((gX Γ).2.2 (i + 2)) = q at *
  refine WP.istore (pc := 1780) dL_law_1780 (Nat.le_of_ble_eq_true rfl) rfl ?_
  refine WP.aload_n (pc := 1782) dL_law_1782 rfl ?_
  refine WP.cV1 (pc := 1783) (mc2 := 40 * k) (ms2 := 512 * k) (ci := 9) kL_175 (CX9_thrown Γ hm2) (by decide) rfl hm2.t0 rfl ⟨(Nat.le_of_ble_eq_true rfl), (Nat.le_of_ble_eq_true rfl)⟩ (by omega) (by omega) (Nat.le_of_ble_eq_true rfl) rfl dL_law_1783 ?_
  rw [g1]
  refine WP.iload (pc := 1786) dL_law_1786 rfl ?_
  refine WP.icmp_eq (pc := 1788) (tgt := 1793) dL_law_1788 (by decide) (fun _ => ?_) (fun c => absurd rfl c)
  refine WP.iload (pc := 1793) dL_law_1793 rfl ?_
  have fin : ∀ L5 L6, WP Γ (12, 260, 40 * k, 512 * k) (ML_law nm) lwO 1810 (lwL Γ x i L5 L6 none none) [] (wI τ I1) := fun L5 L6 => WP.goto (pc := 1810) (tgt := 3458) dL_law_1810 (by decide) (hk _ _ L5 L6 none none h5 hI)
  refine WP.if_ne (pc := 1795) (tgt := 1810) dL_law_1795 (by decide) (fun _ => fin _ _) (fun c => ?_)
  have c0 : q.1 = 0 := (nI_eq (b := 0) (by omega) (by omega)).mp c
  refine WP.aload_n (pc := 1798) dL_law_1798 rfl ?_
  refine WP.iconst (pc := 1799) (v := 0) dL_law_1799 (by decide) ?_
  refine WP.laload (pc := 1800) (a := x + 74) (n := 1) ho2 vp01 dL_law_1800 ?_
  rw [show aL (wI τ I1) (x + 74) (Int32.toNatClampNeg 0) = q.2.1.toInt64 from h4 c0]
  refine WP.iload (pc := 1801) dL_law_1801 rfl ?_
  refine WP.i2l (pc := 1803) dL_law_1803 ?_
  rw [g2 c0]
  refine WP.lcmp (pc := 1804) dL_law_1804 ?_
  exact WP.if_eq (pc := 1805) (tgt := 1810) dL_law_1805 (by decide) (fun _ => fin _ _) (fun c => absurd (lg_self _) c)
end T
