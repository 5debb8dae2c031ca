/-! the law's cases -/
section CASES
variable {p : Program} {l : Launch} {e : Env} {s : State} {m : MethodId} {args : Array Value} {below : List Frame} {meth : Method} {c : Code} {Q : State → Prop} {w : Wd} {cs sl : Nat} {sg : Sg} {L : Nat} {xs : Nat → Int32}
set_option maxHeartbeats 4000000 in
set_option maxRecDepth 100000 in
theorem cs_ifMargin (h : LC l p s m args meth c L xs w) {i n c' B : Nat} (hT : T2 0 331 n c' B sg) (hi : i + 7 ≤ L) (hB : 7260 ≤ B ∧ B ≤ 50000) (hcell : cs + 1 ≤ 601024 ∧ sl + 6 ≤ 7293034) (kk : ∀ w1 g3 n c', LC l p s m args meth c L xs w1 → T2 0 331 n c' (B + 60) g3 → V p l e (mRm mtL_law) s m args below meth c mtL_law w1 Q (cs + 1) (sl + 6) 1906 (lloc (nI i) none none) [] g3) : V p l e (mRm mtL_law) s m args below meth c mtL_law w Q cs sl 1376 (lloc (nI i) none none) [] sg := by
  obtain ⟨hC, hX, hWr, hBs, hXs, hbl, hL, hl0⟩ := id h
  refine V_aload_n hC kL_law_1376 rfl ?_
  refine V_aload_n hC kL_law_1377 rfl ?_
  refine V_iload hC kL_law_1378 rfl ?_
  refine V_iconst hC (1) kL_law_1380 (by decide) ?_
  refine V_iadd hC kL_law_1381 ?_
  refine V_xald h kL_law_1382 (sc_in (k := 1) hi hL (by decide)) ?_
  refine V_nameI (fun a1 e1 => ?_)
  refine V_aload_n hC kL_law_1383 rfl ?_
  refine V_iload hC kL_law_1384 rfl ?_
  refine V_iconst hC (2) kL_law_1386 (by decide) ?_
  refine V_iadd hC kL_law_1387 ?_
  refine V_xald h kL_law_1388 (sc_in (k := 2) hi hL (by decide)) ?_
  refine V_nameI (fun a2 e2 => ?_)
  refine V_aload_n hC kL_law_1389 rfl ?_
  refine V_iload hC kL_law_1390 rfl ?_
  refine V_iconst hC (3) kL_law_1392 (by decide) ?_
  refine V_iadd hC kL_law_1393 ?_
  refine V_xald h kL_law_1394 (sc_in (k := 3) hi hL (by decide)) ?_
  refine V_nameI (fun a3 e3 => ?_)
  refine V_aload_n hC kL_law_1395 rfl ?_
  refine V_callT hC hX (lw_ifMargin hWr hl0 a1 a2 a3 (o := 339) (x := 0) hT.rel hT.inv hT.bt) mt_L_ifMargin ltL_172 kL_law_1396 rfl rfl (Nat.le_of_ble_eq_true rfl) ⟨(Nat.le_of_ble_eq_true rfl), (Nat.le_of_ble_eq_true rfl)⟩ ⟨hcell.1, hcell.2⟩ (fun r w1 g2 hp => PW_post hp) (fun y w1 g2 hp => ?_)
  obtain ⟨k, hk, hw, post, hM, hpost⟩ := pr_trial hT (by decide) hWr hp (fun v g hv e1 => by
    have z := ct_ifMargin (l := l) (sg := g) (mo := 331) hv a1 a2 a3 (by rw [e1]; exact hT.inv)
    rw [e1] at z
    exact z) (fun _ => rfl)
  obtain rfl : y = k := by cases hk; rfl
  have h1 := h.go hw
  have hC1 := h1.1
  refine V_istore hC1 (lloc (nI i) (some (vI y)) none) kL_law_1399 rfl (Nat.le_of_ble_eq_true rfl) ?_
  refine V_aload_n hC1 kL_law_1401 rfl ?_
  refine V_aload_n hC1 kL_law_1402 rfl ?_
  refine V_iload hC1 kL_law_1403 rfl ?_
  refine V_iconst hC1 (1) kL_law_1405 (by decide) ?_
  refine V_iadd hC1 kL_law_1406 ?_
  refine V_xald h1 kL_law_1407 (sc_in (k := 1) hi hL (by decide)) ?_
  rw [← e1]
  refine V_aload_n hC1 kL_law_1408 rfl ?_
  refine V_iload hC1 kL_law_1409 rfl ?_
  refine V_iconst hC1 (2) kL_law_1411 (by decide) ?_
  refine V_iadd hC1 kL_law_1412 ?_
  refine V_xald h1 kL_law_1413 (sc_in (k := 2) hi hL (by decide)) ?_
  rw [← e2]
  refine V_aload_n hC1 kL_law_1414 rfl ?_
  refine V_iload hC1 kL_law_1415 rfl ?_
  refine V_iconst hC1 (3) kL_law_1417 (by decide) ?_
  refine V_iadd hC1 kL_law_1418 ?_
  refine V_xald h1 kL_law_1419 (sc_in (k := 3) hi hL (by decide)) ?_
  rw [← e3]
  refine V_cM hC1 hM mkX6_ifMargin lmL_175 kL_law_1420 rfl rfl rfl (Nat.le_of_ble_eq_true rfl) ⟨(Nat.le_of_ble_eq_true rfl), (Nat.le_of_ble_eq_true rfl)⟩ ⟨rfl, rfl⟩ ⟨hcell.1, hcell.2⟩ hpost (fun b g3 hD => ?_)
  exact V_tail h1 ⟨hcell.1, hcell.2⟩ hD kL_law_1423 kL_law_1425 kL_law_1426 kL_law_1429 kL_law_1431 kL_law_1436 kL_law_1438 kL_law_1441 kL_law_1442 kL_law_1443 kL_law_1444 kL_law_1446 kL_law_1447 kL_law_1448 kL_law_1453 (by decide) (fun n3 c3 hT3 => kk _ _ _ _ h1 hT3)
set_option maxHeartbeats 4000000 in
set_option maxRecDepth 100000 in
theorem cs_bestMargin (h : LC l p s m args meth c L xs w) {i n c' B : Nat} (hT : T2 0 331 n c' B sg) (hi : i + 7 ≤ L) (hB : 7260 ≤ B ∧ B ≤ 50000) (hcell : cs + 1 ≤ 601024 ∧ sl + 6 ≤ 7293034) (kk : ∀ w1 g3 n c', LC l p s m args meth c L xs w1 → T2 0 331 n c' (B + 60) g3 → V p l e (mRm mtL_law) s m args below meth c mtL_law w1 Q (cs + 1) (sl + 6) 1906 (lloc (nI i) none none) [] g3) : V p l e (mRm mtL_law) s m args below meth c mtL_law w Q cs sl 1456 (lloc (nI i) none none) [] sg := by
  obtain ⟨hC, hX, hWr, hBs, hXs, hbl, hL, hl0⟩ := id h
  refine V_aload_n hC kL_law_1456 rfl ?_
  refine V_aload_n hC kL_law_1457 rfl ?_
  refine V_iload hC kL_law_1458 rfl ?_
  refine V_iconst hC (1) kL_law_1460 (by decide) ?_
  refine V_iadd hC kL_law_1461 ?_
  refine V_xald h kL_law_1462 (sc_in (k := 1) hi hL (by decide)) ?_
  refine V_nameI (fun a1 e1 => ?_)
  refine V_aload_n hC kL_law_1463 rfl ?_
  refine V_callT hC hX (lw_bestMargin hWr hl0 a1 (o := 339) (x := 0) hT.rel hT.inv hT.bt) mt_L_bestMargin ltL_176 kL_law_1464 rfl rfl (Nat.le_of_ble_eq_true rfl) ⟨(Nat.le_of_ble_eq_true rfl), (Nat.le_of_ble_eq_true rfl)⟩ ⟨hcell.1, hcell.2⟩ (fun r w1 g2 hp => PW_post hp) (fun y w1 g2 hp => ?_)
  obtain ⟨k, hk, hw, post, hM, hpost⟩ := pr_trial hT (by decide) hWr hp (fun v g hv e1 => by
    have z := ct_bestMargin (l := l) (sg := g) (mo := 331) hv a1 (by rw [e1]; exact hT.inv)
    rw [e1] at z
    exact z) (fun _ => rfl)
  obtain rfl : y = k := by cases hk; rfl
  have h1 := h.go hw
  have hC1 := h1.1
  refine V_istore hC1 (lloc (nI i) (some (vI y)) none) kL_law_1467 rfl (Nat.le_of_ble_eq_true rfl) ?_
  refine V_aload_n hC1 kL_law_1469 rfl ?_
  refine V_aload_n hC1 kL_law_1470 rfl ?_
  refine V_iload hC1 kL_law_1471 rfl ?_
  refine V_iconst hC1 (1) kL_law_1473 (by decide) ?_
  refine V_iadd hC1 kL_law_1474 ?_
  refine V_xald h1 kL_law_1475 (sc_in (k := 1) hi hL (by decide)) ?_
  rw [← e1]
  refine V_cM hC1 hM mkX6_bestMargin lmL_178 kL_law_1476 rfl rfl rfl (Nat.le_of_ble_eq_true rfl) ⟨(Nat.le_of_ble_eq_true rfl), (Nat.le_of_ble_eq_true rfl)⟩ ⟨rfl, rfl⟩ ⟨hcell.1, hcell.2⟩ hpost (fun b g3 hD => ?_)
  exact V_tail h1 ⟨hcell.1, hcell.2⟩ hD kL_law_1479 kL_law_1481 kL_law_1482 kL_law_1485 kL_law_1487 kL_law_1492 kL_law_1494 kL_law_1497 kL_law_1498 kL_law_1499 kL_law_1500 kL_law_1502 kL_law_1503 kL_law_1504 kL_law_1509 (by decide) (fun n3 c3 hT3 => kk _ _ _ _ h1 hT3)
set_option maxHeartbeats 4000000 in
set_option maxRecDepth 100000 in
theorem cs_dark (h : LC l p s m args meth c L xs w) {i n c' B : Nat} (hT : T2 0 331 n c' B sg) (hi : i + 7 ≤ L) (hB : 7260 ≤ B ∧ B ≤ 50000) (hcell : cs + 1 ≤ 601024 ∧ sl + 6 ≤ 7293034) (kk : ∀ w1 g3 n c', LC l p s m args meth c L xs w1 → T2 0 331 n c' (B + 60) g3 → V p l e (mRm mtL_law) s m args below meth c mtL_law w1 Q (cs + 1) (sl + 6) 1906 (lloc (nI i) none none) [] g3) : V p l e (mRm mtL_law) s m args below meth c mtL_law w Q cs sl 1512 (lloc (nI i) none none) [] sg := by
  obtain ⟨hC, hX, hWr, hBs, hXs, hbl, hL, hl0⟩ := id h
  refine V_aload_n hC kL_law_1512 rfl ?_
  refine V_cX hC (cl_dark hWr hT.rel hT.inv) mkX5_dark lmL_179 kL_law_1513 rfl rfl rfl (Nat.le_of_ble_eq_true rfl) ⟨(Nat.le_of_ble_eq_true rfl), (Nat.le_of_ble_eq_true rfl)⟩ ⟨rfl, rfl⟩ (by show cs ≤ 601024 ∧ sl ≤ 7293034; omega) (fun r g2 hp => pd_dark hT (by decide) hWr hp) (fun a g2 post hM hpost => ?_)
  refine V_aload_n hC kL_law_1516 rfl ?_
  refine V_cM hC hM mkX6_dark lmL_182 kL_law_1517 rfl rfl rfl (Nat.le_of_ble_eq_true rfl) ⟨(Nat.le_of_ble_eq_true rfl), (Nat.le_of_ble_eq_true rfl)⟩ ⟨rfl, rfl⟩ (by show cs ≤ 601024 ∧ sl ≤ 7293034; omega) hpost (fun b g3 hD => ?_)
  exact V_tail2 h hD kL_law_1520 (by decide) (fun n3 c3 hT3 => V_wd ⟨Nat.le_succ _, Nat.le_add_right _ _⟩ (kk _ _ _ _ h hT3))
set_option maxHeartbeats 4000000 in
set_option maxRecDepth 100000 in
theorem cs_border (h : LC l p s m args meth c L xs w) {i n c' B : Nat} (hT : T2 0 331 n c' B sg) (hi : i + 7 ≤ L) (hB : 7260 ≤ B ∧ B ≤ 50000) (hcell : cs + 1 ≤ 601024 ∧ sl + 6 ≤ 7293034) (kk : ∀ w1 g3 n c', LC l p s m args meth c L xs w1 → T2 0 331 n c' (B + 60) g3 → V p l e (mRm mtL_law) s m args below meth c mtL_law w1 Q (cs + 1) (sl + 6) 1906 (lloc (nI i) none none) [] g3) : V p l e (mRm mtL_law) s m args below meth c mtL_law w Q cs sl 1525 (lloc (nI i) none none) [] sg := by
  obtain ⟨hC, hX, hWr, hBs, hXs, hbl, hL, hl0⟩ := id h
  refine V_aload_n hC kL_law_1525 rfl ?_
  refine V_aload_n hC kL_law_1526 rfl ?_
  refine V_iload hC kL_law_1527 rfl ?_
  refine V_iconst hC (1) kL_law_1529 (by decide) ?_
  refine V_iadd hC kL_law_1530 ?_
  refine V_xald h kL_law_1531 (sc_in (k := 1) hi hL (by decide)) ?_
  refine V_nameI (fun a1 e1 => ?_)
  refine V_aload_n hC kL_law_1532 rfl ?_
  refine V_callT hC hX (lw_border hWr hl0 a1 (o := 339) (x := 0) hT.rel hT.inv) mt_L_border ltL_183 kL_law_1533 rfl rfl (Nat.le_of_ble_eq_true rfl) ⟨(Nat.le_of_ble_eq_true rfl), (Nat.le_of_ble_eq_true rfl)⟩ ⟨hcell.1, hcell.2⟩ (fun r w1 g2 hp => PW_post hp) (fun y w1 g2 hp => ?_)
  obtain ⟨k, hk, hw, post, hM, hpost⟩ := pr_read hT (by decide) hWr hp (fun v hv => ct_border hv a1 hT.inv)
  obtain rfl : y = k := by cases hk; rfl
  have h1 := h.go hw
  have hC1 := h1.1
  refine V_istore hC1 (lloc (nI i) (some (vI y)) none) kL_law_1536 rfl (Nat.le_of_ble_eq_true rfl) ?_
  refine V_aload_n hC1 kL_law_1538 rfl ?_
  refine V_aload_n hC1 kL_law_1539 rfl ?_
  refine V_iload hC1 kL_law_1540 rfl ?_
  refine V_iconst hC1 (1) kL_law_1542 (by decide) ?_
  refine V_iadd hC1 kL_law_1543 ?_
  refine V_xald h1 kL_law_1544 (sc_in (k := 1) hi hL (by decide)) ?_
  rw [← e1]
  refine V_cM hC1 hM mkX6_border lmL_185 kL_law_1545 rfl rfl rfl (Nat.le_of_ble_eq_true rfl) ⟨(Nat.le_of_ble_eq_true rfl), (Nat.le_of_ble_eq_true rfl)⟩ ⟨rfl, rfl⟩ ⟨hcell.1, hcell.2⟩ hpost (fun b g3 hD => ?_)
  exact V_tail h1 ⟨hcell.1, hcell.2⟩ hD kL_law_1548 kL_law_1550 kL_law_1551 kL_law_1554 kL_law_1556 kL_law_1561 kL_law_1563 kL_law_1566 kL_law_1567 kL_law_1568 kL_law_1569 kL_law_1571 kL_law_1572 kL_law_1573 kL_law_1578 (by decide) (fun n3 c3 hT3 => kk _ _ _ _ h1 hT3)
set_option maxHeartbeats 4000000 in
set_option maxRecDepth 100000 in
theorem cs_room (h : LC l p s m args meth c L xs w) {i n c' B : Nat} (hT : T2 0 331 n c' B sg) (hi : i + 7 ≤ L) (hB : 7260 ≤ B ∧ B ≤ 50000) (hcell : cs + 1 ≤ 601024 ∧ sl + 6 ≤ 7293034) (kk : ∀ w1 g3 n c', LC l p s m args meth c L xs w1 → T2 0 331 n c' (B + 60) g3 → V p l e (mRm mtL_law) s m args below meth c mtL_law w1 Q (cs + 1) (sl + 6) 1906 (lloc (nI i) none none) [] g3) : V p l e (mRm mtL_law) s m args below meth c mtL_law w Q cs sl 1581 (lloc (nI i) none none) [] sg := by
  obtain ⟨hC, hX, hWr, hBs, hXs, hbl, hL, hl0⟩ := id h
  refine V_aload_n hC kL_law_1581 rfl ?_
  refine V_cX hC (cl_room hWr hT.rel hT.inv) mkX5_room lmL_186 kL_law_1582 rfl rfl rfl (Nat.le_of_ble_eq_true rfl) ⟨(Nat.le_of_ble_eq_true rfl), (Nat.le_of_ble_eq_true rfl)⟩ ⟨rfl, rfl⟩ (by show cs ≤ 601024 ∧ sl ≤ 7293034; omega) (fun r g2 hp => pd_room hT (by decide) hWr hp) (fun a g2 post hM hpost => ?_)
  refine V_aload_n hC kL_law_1585 rfl ?_
  refine V_cM hC hM mkX6_room lmL_189 kL_law_1586 rfl rfl rfl (Nat.le_of_ble_eq_true rfl) ⟨(Nat.le_of_ble_eq_true rfl), (Nat.le_of_ble_eq_true rfl)⟩ ⟨rfl, rfl⟩ (by show cs ≤ 601024 ∧ sl ≤ 7293034; omega) hpost (fun b g3 hD => ?_)
  exact V_tail2 h hD kL_law_1589 (by decide) (fun n3 c3 hT3 => V_wd ⟨Nat.le_succ _, Nat.le_add_right _ _⟩ (kk _ _ _ _ h hT3))
set_option maxHeartbeats 4000000 in
set_option maxRecDepth 100000 in
theorem cs_runScript (h : LC l p s m args meth c L xs w) {i n c' B : Nat} (hT : T2 0 331 n c' B sg) (hi : i + 7 ≤ L) (hB : 7260 ≤ B ∧ B ≤ 50000) (hcell : cs + 1 ≤ 601024 ∧ sl + 6 ≤ 7293034) (kk : ∀ w1 g3 n c', LC l p s m args meth c L xs w1 → T2 0 331 n c' (B + 60) g3 → V p l e (mRm mtL_law) s m args below meth c mtL_law w1 Q (cs + 1) (sl + 6) 1906 (lloc (nI i) none none) [] g3) : V p l e (mRm mtL_law) s m args below meth c mtL_law w Q cs sl 1594 (lloc (nI i) none none) [] sg := by
  obtain ⟨hC, hX, hWr, hBs, hXs, hbl, hL, hl0⟩ := id h
  refine V_aload_n hC kL_law_1594 rfl ?_
  refine V_aload_n hC kL_law_1595 rfl ?_
  refine V_iload hC kL_law_1596 rfl ?_
  refine V_iconst hC (1) kL_law_1598 (by decide) ?_
  refine V_iadd hC kL_law_1599 ?_
  refine V_xald h kL_law_1600 (sc_in (k := 1) hi hL (by decide)) ?_
  refine V_nameI (fun a1 e1 => ?_)
  refine V_aload_n hC kL_law_1601 rfl ?_
  refine V_iload hC kL_law_1602 rfl ?_
  refine V_iconst hC (2) kL_law_1604 (by decide) ?_
  refine V_iadd hC kL_law_1605 ?_
  refine V_xald h kL_law_1606 (sc_in (k := 2) hi hL (by decide)) ?_
  refine V_nameI (fun a2 e2 => ?_)
  refine V_i2l hC kL_law_1607 ?_
  refine V_bipush hC (32) kL_law_1608 (by decide) ?_
  refine V_lshl hC kL_law_1610 ?_
  refine V_aload_n hC kL_law_1611 rfl ?_
  refine V_iload hC kL_law_1612 rfl ?_
  refine V_iconst hC (3) kL_law_1614 (by decide) ?_
  refine V_iadd hC kL_law_1615 ?_
  refine V_xald h kL_law_1616 (sc_in (k := 3) hi hL (by decide)) ?_
  refine V_nameI (fun a3 e3 => ?_)
  refine V_i2l hC kL_law_1617 ?_
  refine V_ldc2 hC lcL_190 kL_law_1618 ?_
  refine V_land hC kL_law_1621 ?_
  refine V_lor hC kL_law_1622 ?_
  refine V_nameL (fun u eu => ?_)
  refine V_aload_n hC kL_law_1623 rfl ?_
  refine V_callT hC hX (lw_runScript hWr hl0 a1 u (sg (331 + 7)) (o := 339) (x := 0) hT.rel hT.inv hT.bt) mt_L_runScript ltL_192 kL_law_1624 rfl rfl (Nat.le_of_ble_eq_true rfl) ⟨(Nat.le_of_ble_eq_true rfl), (Nat.le_of_ble_eq_true rfl)⟩ ⟨hcell.1, hcell.2⟩ (fun r w1 g2 hp => PV_post hp) (fun y w1 g2 hp => ?_)
  obtain ⟨k, hk, hw, post, hM, hpost⟩ := pr_runScript a1 u hT (by decide) hWr hp
  obtain rfl : y = k := by cases hk; rfl
  have h1 := h.go hw
  have hC1 := h1.1
  refine V_istore hC1 (lloc (nI i) (some (vI y)) none) kL_law_1627 rfl (Nat.le_of_ble_eq_true rfl) ?_
  refine V_aload_n hC1 kL_law_1629 rfl ?_
  refine V_aload_n hC1 kL_law_1630 rfl ?_
  refine V_iload hC1 kL_law_1631 rfl ?_
  refine V_iconst hC1 (1) kL_law_1633 (by decide) ?_
  refine V_iadd hC1 kL_law_1634 ?_
  refine V_xald h1 kL_law_1635 (sc_in (k := 1) hi hL (by decide)) ?_
  rw [← e1]
  refine V_aload_n hC1 kL_law_1636 rfl ?_
  refine V_iload hC1 kL_law_1637 rfl ?_
  refine V_iconst hC1 (2) kL_law_1639 (by decide) ?_
  refine V_iadd hC1 kL_law_1640 ?_
  refine V_xald h1 kL_law_1641 (sc_in (k := 2) hi hL (by decide)) ?_
  rw [← e2]
  refine V_i2l hC1 kL_law_1642 ?_
  refine V_bipush hC1 (32) kL_law_1643 (by decide) ?_
  refine V_lshl hC1 kL_law_1645 ?_
  refine V_aload_n hC1 kL_law_1646 rfl ?_
  refine V_iload hC1 kL_law_1647 rfl ?_
  refine V_iconst hC1 (3) kL_law_1649 (by decide) ?_
  refine V_iadd hC1 kL_law_1650 ?_
  refine V_xald h1 kL_law_1651 (sc_in (k := 3) hi hL (by decide)) ?_
  rw [← e3]
  refine V_i2l hC1 kL_law_1652 ?_
  refine V_ldc2 hC1 lcL_190 kL_law_1653 ?_
  refine V_land hC1 kL_law_1656 ?_
  refine V_lor hC1 kL_law_1657 ?_
  rw [← eu]
  refine V_cM hC1 hM mkX6_runScript lmL_195 kL_law_1658 rfl rfl rfl (Nat.le_of_ble_eq_true rfl) ⟨(Nat.le_of_ble_eq_true rfl), (Nat.le_of_ble_eq_true rfl)⟩ ⟨rfl, rfl⟩ ⟨hcell.1, hcell.2⟩ hpost (fun b g3 hD => ?_)
  exact V_tail h1 ⟨hcell.1, hcell.2⟩ hD kL_law_1661 kL_law_1663 kL_law_1664 kL_law_1667 kL_law_1669 kL_law_1674 kL_law_1676 kL_law_1679 kL_law_1680 kL_law_1681 kL_law_1682 kL_law_1684 kL_law_1685 kL_law_1686 kL_law_1691 (by decide) (fun n3 c3 hT3 => kk _ _ _ _ h1 hT3)
set_option maxHeartbeats 4000000 in
set_option maxRecDepth 100000 in
theorem cs_simulate (h : LC l p s m args meth c L xs w) {i n c' B : Nat} (hT : T2 0 331 n c' B sg) (hi : i + 7 ≤ L) (hB : 7260 ≤ B ∧ B ≤ 50000) (hcell : cs + 1 ≤ 601024 ∧ sl + 6 ≤ 7293034) (kk : ∀ w1 g3 n c', LC l p s m args meth c L xs w1 → T2 0 331 n c' (B + 60) g3 → V p l e (mRm mtL_law) s m args below meth c mtL_law w1 Q (cs + 1) (sl + 6) 1906 (lloc (nI i) none none) [] g3) : V p l e (mRm mtL_law) s m args below meth c mtL_law w Q cs sl 1694 (lloc (nI i) none none) [] sg := by
  obtain ⟨hC, hX, hWr, hBs, hXs, hbl, hL, hl0⟩ := id h
  refine V_aload_n hC kL_law_1694 rfl ?_
  refine V_aload_n hC kL_law_1695 rfl ?_
  refine V_iload hC kL_law_1696 rfl ?_
  refine V_iconst hC (1) kL_law_1698 (by decide) ?_
  refine V_iadd hC kL_law_1699 ?_
  refine V_xald h kL_law_1700 (sc_in (k := 1) hi hL (by decide)) ?_
  refine V_nameI (fun a1 e1 => ?_)
  refine V_i2l hC kL_law_1701 ?_
  refine V_bipush hC (32) kL_law_1702 (by decide) ?_
  refine V_lshl hC kL_law_1704 ?_
  refine V_aload_n hC kL_law_1705 rfl ?_
  refine V_iload hC kL_law_1706 rfl ?_
  refine V_iconst hC (2) kL_law_1708 (by decide) ?_
  refine V_iadd hC kL_law_1709 ?_
  refine V_xald h kL_law_1710 (sc_in (k := 2) hi hL (by decide)) ?_
  refine V_nameI (fun a2 e2 => ?_)
  refine V_i2l hC kL_law_1711 ?_
  refine V_ldc2 hC lcL_190 kL_law_1712 ?_
  refine V_land hC kL_law_1715 ?_
  refine V_lor hC kL_law_1716 ?_
  refine V_nameL (fun u eu => ?_)
  refine V_aload_n hC kL_law_1717 rfl ?_
  refine V_iload hC kL_law_1718 rfl ?_
  refine V_iconst hC (3) kL_law_1720 (by decide) ?_
  refine V_iadd hC kL_law_1721 ?_
  refine V_xald h kL_law_1722 (sc_in (k := 3) hi hL (by decide)) ?_
  refine V_nameI (fun a3 e3 => ?_)
  refine V_aload_n hC kL_law_1723 rfl ?_
  refine V_callT hC hX (lw_simulate hWr hl0 u a3 (o := 339) (x := 0) hT.rel hT.inv hT.bt) mt_L_simulate ltL_196 kL_law_1724 rfl rfl (Nat.le_of_ble_eq_true rfl) ⟨(Nat.le_of_ble_eq_true rfl), (Nat.le_of_ble_eq_true rfl)⟩ ⟨hcell.1, hcell.2⟩ (fun r w1 g2 hp => PW_post hp) (fun y w1 g2 hp => ?_)
  obtain ⟨k, hk, hw, post, hM, hpost⟩ := pr_trial hT (by decide) hWr hp (fun v g hv e1 => by
    have z := ct_simulate (l := l) (sg := g) (mo := 331) hv u a3 (by rw [e1]; exact hT.inv)
    rw [e1] at z
    exact z) (fun _ => rfl)
  obtain rfl : y = k := by cases hk; rfl
  have h1 := h.go hw
  have hC1 := h1.1
  refine V_istore hC1 (lloc (nI i) (some (vI y)) none) kL_law_1727 rfl (Nat.le_of_ble_eq_true rfl) ?_
  refine V_aload_n hC1 kL_law_1729 rfl ?_
  refine V_aload_n hC1 kL_law_1730 rfl ?_
  refine V_iload hC1 kL_law_1731 rfl ?_
  refine V_iconst hC1 (1) kL_law_1733 (by decide) ?_
  refine V_iadd hC1 kL_law_1734 ?_
  refine V_xald h1 kL_law_1735 (sc_in (k := 1) hi hL (by decide)) ?_
  rw [← e1]
  refine V_i2l hC1 kL_law_1736 ?_
  refine V_bipush hC1 (32) kL_law_1737 (by decide) ?_
  refine V_lshl hC1 kL_law_1739 ?_
  refine V_aload_n hC1 kL_law_1740 rfl ?_
  refine V_iload hC1 kL_law_1741 rfl ?_
  refine V_iconst hC1 (2) kL_law_1743 (by decide) ?_
  refine V_iadd hC1 kL_law_1744 ?_
  refine V_xald h1 kL_law_1745 (sc_in (k := 2) hi hL (by decide)) ?_
  rw [← e2]
  refine V_i2l hC1 kL_law_1746 ?_
  refine V_ldc2 hC1 lcL_190 kL_law_1747 ?_
  refine V_land hC1 kL_law_1750 ?_
  refine V_lor hC1 kL_law_1751 ?_
  rw [← eu]
  refine V_aload_n hC1 kL_law_1752 rfl ?_
  refine V_iload hC1 kL_law_1753 rfl ?_
  refine V_iconst hC1 (3) kL_law_1755 (by decide) ?_
  refine V_iadd hC1 kL_law_1756 ?_
  refine V_xald h1 kL_law_1757 (sc_in (k := 3) hi hL (by decide)) ?_
  rw [← e3]
  refine V_cM hC1 hM mkX6_simulate lmL_199 kL_law_1758 rfl rfl rfl (Nat.le_of_ble_eq_true rfl) ⟨(Nat.le_of_ble_eq_true rfl), (Nat.le_of_ble_eq_true rfl)⟩ ⟨rfl, rfl⟩ ⟨hcell.1, hcell.2⟩ hpost (fun b g3 hD => ?_)
  exact V_tail h1 ⟨hcell.1, hcell.2⟩ hD kL_law_1761 kL_law_1763 kL_law_1764 kL_law_1767 kL_law_1769 kL_law_1774 kL_law_1776 kL_law_1779 kL_law_1780 kL_law_1781 kL_law_1782 kL_law_1784 kL_law_1785 kL_law_1786 kL_law_1791 (by decide) (fun n3 c3 hT3 => kk _ _ _ _ h1 hT3)
set_option maxHeartbeats 4000000 in
set_option maxRecDepth 100000 in
theorem cs_save (h : LC l p s m args meth c L xs w) {i n c' B : Nat} (hT : T2 0 331 n c' B sg) (hi : i + 7 ≤ L) (hB : 7260 ≤ B ∧ B ≤ 50000) (hcell : cs + 1 ≤ 601024 ∧ sl + 6 ≤ 7293034) (kk : ∀ w1 g3 n c', LC l p s m args meth c L xs w1 → T2 0 331 n c' (B + 60) g3 → V p l e (mRm mtL_law) s m args below meth c mtL_law w1 Q (cs + 1) (sl + 6) 1906 (lloc (nI i) none none) [] g3) : V p l e (mRm mtL_law) s m args below meth c mtL_law w Q cs sl 1794 (lloc (nI i) none none) [] sg := by
  obtain ⟨hC, hX, hWr, hBs, hXs, hbl, hL, hl0⟩ := id h
  refine V_aload_n hC kL_law_1794 rfl ?_
  refine V_aload_n hC kL_law_1795 rfl ?_
  refine V_iload hC kL_law_1796 rfl ?_
  refine V_iconst hC (1) kL_law_1798 (by decide) ?_
  refine V_iadd hC kL_law_1799 ?_
  refine V_xald h kL_law_1800 (sc_in (k := 1) hi hL (by decide)) ?_
  refine V_nameI (fun a1 e1 => ?_)
  refine V_aload_n hC kL_law_1801 rfl ?_
  refine V_callT hC hX (lw_save hWr hl0 a1 (o := 339) (x := 0) hT.rel hT.inv hT.mr) mt_L_save ltL_200 kL_law_1802 rfl rfl (Nat.le_of_ble_eq_true rfl) ⟨(Nat.le_of_ble_eq_true rfl), (Nat.le_of_ble_eq_true rfl)⟩ ⟨hcell.1, hcell.2⟩ (fun r w1 g2 hp => PW_post hp) (fun y w1 g2 hp => ?_)
  obtain ⟨k, hk, hw, post, hM, hpost⟩ := pr_save a1 hT (by decide) hWr hp
  obtain rfl : y = k := by cases hk; rfl
  have h1 := h.go hw
  have hC1 := h1.1
  refine V_istore hC1 (lloc (nI i) (some (vI y)) none) kL_law_1805 rfl (Nat.le_of_ble_eq_true rfl) ?_
  refine V_aload_n hC1 kL_law_1807 rfl ?_
  refine V_aload_n hC1 kL_law_1808 rfl ?_
  refine V_iload hC1 kL_law_1809 rfl ?_
  refine V_iconst hC1 (1) kL_law_1811 (by decide) ?_
  refine V_iadd hC1 kL_law_1812 ?_
  refine V_xald h1 kL_law_1813 (sc_in (k := 1) hi hL (by decide)) ?_
  rw [← e1]
  refine V_cM hC1 hM mkX6_save lmL_202 kL_law_1814 rfl rfl rfl (Nat.le_of_ble_eq_true rfl) ⟨(Nat.le_of_ble_eq_true rfl), (Nat.le_of_ble_eq_true rfl)⟩ ⟨rfl, rfl⟩ ⟨hcell.1, hcell.2⟩ hpost (fun b g3 hD => ?_)
  exact V_tail h1 ⟨hcell.1, hcell.2⟩ hD kL_law_1817 kL_law_1819 kL_law_1820 kL_law_1823 kL_law_1825 kL_law_1830 kL_law_1832 kL_law_1835 kL_law_1836 kL_law_1837 kL_law_1838 kL_law_1840 kL_law_1841 kL_law_1842 kL_law_1847 (by decide) (fun n3 c3 hT3 => kk _ _ _ _ h1 hT3)
set_option maxHeartbeats 4000000 in
set_option maxRecDepth 100000 in
theorem cs_restore (h : LC l p s m args meth c L xs w) {i n c' B : Nat} (hT : T2 0 331 n c' B sg) (hi : i + 7 ≤ L) (hB : 7260 ≤ B ∧ B ≤ 50000) (hcell : cs + 1 ≤ 601024 ∧ sl + 6 ≤ 7293034) (kk : ∀ w1 g3 n c', LC l p s m args meth c L xs w1 → T2 0 331 n c' (B + 60) g3 → V p l e (mRm mtL_law) s m args below meth c mtL_law w1 Q (cs + 1) (sl + 6) 1906 (lloc (nI i) none none) [] g3) : V p l e (mRm mtL_law) s m args below meth c mtL_law w Q cs sl 1850 (lloc (nI i) none none) [] sg := by
  obtain ⟨hC, hX, hWr, hBs, hXs, hbl, hL, hl0⟩ := id h
  refine V_aload_n hC kL_law_1850 rfl ?_
  refine V_aload_n hC kL_law_1851 rfl ?_
  refine V_iload hC kL_law_1852 rfl ?_
  refine V_iconst hC (1) kL_law_1854 (by decide) ?_
  refine V_iadd hC kL_law_1855 ?_
  refine V_xald h kL_law_1856 (sc_in (k := 1) hi hL (by decide)) ?_
  refine V_nameI (fun a1 e1 => ?_)
  refine V_aload_n hC kL_law_1857 rfl ?_
  refine V_callT hC hX (lw_restore hWr hl0 a1 (o := 339) (x := 0) hT.rel hT.inv hT.mr) mt_L_restore ltL_203 kL_law_1858 rfl rfl (Nat.le_of_ble_eq_true rfl) ⟨(Nat.le_of_ble_eq_true rfl), (Nat.le_of_ble_eq_true rfl)⟩ ⟨hcell.1, hcell.2⟩ (fun r w1 g2 hp => PW_post hp) (fun y w1 g2 hp => ?_)
  obtain ⟨k, hk, hw, post, hM, hpost⟩ := pr_restore a1 hT (by decide) hWr hp
  obtain rfl : y = k := by cases hk; rfl
  have h1 := h.go hw
  have hC1 := h1.1
  refine V_istore hC1 (lloc (nI i) (some (vI y)) none) kL_law_1861 rfl (Nat.le_of_ble_eq_true rfl) ?_
  refine V_aload_n hC1 kL_law_1863 rfl ?_
  refine V_aload_n hC1 kL_law_1864 rfl ?_
  refine V_iload hC1 kL_law_1865 rfl ?_
  refine V_iconst hC1 (1) kL_law_1867 (by decide) ?_
  refine V_iadd hC1 kL_law_1868 ?_
  refine V_xald h1 kL_law_1869 (sc_in (k := 1) hi hL (by decide)) ?_
  rw [← e1]
  refine V_cM hC1 hM mkX6_restore lmL_205 kL_law_1870 rfl rfl rfl (Nat.le_of_ble_eq_true rfl) ⟨(Nat.le_of_ble_eq_true rfl), (Nat.le_of_ble_eq_true rfl)⟩ ⟨rfl, rfl⟩ ⟨hcell.1, hcell.2⟩ hpost (fun b g3 hD => ?_)
  exact V_tail h1 ⟨hcell.1, hcell.2⟩ hD kL_law_1873 kL_law_1875 kL_law_1876 kL_law_1879 kL_law_1881 kL_law_1886 kL_law_1888 kL_law_1891 kL_law_1892 kL_law_1893 kL_law_1894 kL_law_1896 kL_law_1897 kL_law_1898 kL_law_1903 (by decide) (fun n3 c3 hT3 => kk _ _ _ _ h1 hT3)
end CASES
