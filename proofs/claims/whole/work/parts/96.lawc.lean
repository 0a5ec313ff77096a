section
variable {l : Launch} {g : GG}
set_option maxRecDepth 100000 in
set_option maxHeartbeats 40000000 in
theorem t_L_law_b1414 (h0 : AH) (N : Nat) (k n : Nat) (hk : k + 10 ≤ 600000) (hn : n + 120 ≤ 7302250) (K18 : AH → Nat → Nat → Nat → Int32 → Option (Int32 × AH)) (hK18 : ∀ (z : AH) (z0 : Nat) (z1 : Nat) (z2 : Nat) (z3 : Int32) , AO l g M_L_law true h0 18 [(0, .ref z0), (1, .ref z1), (2, .ref z2), (3, .int z3)] [] z (k + 7) (n + 100) rSi (K18 z z0 z1 z2 z3)) (h : AH) (x0 : Nat) (x1 : Nat) (x2 : Nat) (x3 : Int32) : AO l g M_L_law true h0 1414 [(0, .ref x0), (1, .ref x1), (2, .ref x2), (3, .int x3)] [] h k n rSi (f_L_law_b1414 N K18 h x0 x1 x2 x3) := by
  unfold f_L_law_b1414
  refine a_aload_n dL_law_1414 rfl 1 rfl ?_
  refine a_aload_n dL_law_1415 rfl 0 rfl ?_
  refine a_iload_n dL_law_1416 rfl 3 rfl ?_
  refine a_iconst (v := 1) dL_law_1417 (by decide) ?_
  refine a_iadd dL_law_1418 ?_
  refine a_iald dL_law_1419 (fun v302 => ?_)
  refine a_aload_n dL_law_1420 rfl 0 rfl ?_
  refine a_iload_n dL_law_1421 rfl 3 rfl ?_
  refine a_iconst (v := 2) dL_law_1422 (by decide) ?_
  refine a_iadd dL_law_1423 ?_
  refine a_iald dL_law_1424 (fun v303 => ?_)
  refine a_aload_n dL_law_1425 rfl 0 rfl ?_
  refine a_iload_n dL_law_1426 rfl 3 rfl ?_
  refine a_iconst (v := 3) dL_law_1427 (by decide) ?_
  refine a_iadd dL_law_1428 ?_
  refine a_iald dL_law_1429 (fun v304 => ?_)
  refine a_aload_n dL_law_1430 rfl 0 rfl ?_
  refine a_iload_n dL_law_1431 rfl 3 rfl ?_
  refine a_iconst (v := 4) dL_law_1432 (by decide) ?_
  refine a_iadd dL_law_1433 ?_
  refine a_iald dL_law_1434 (fun v305 => ?_)
  refine a_aload_n dL_law_1435 rfl 0 rfl ?_
  refine a_iload_n dL_law_1436 rfl 3 rfl ?_
  refine a_iconst (v := 5) dL_law_1437 (by decide) ?_
  refine a_iadd dL_law_1438 ?_
  refine a_iald dL_law_1439 (fun v306 => ?_)
  refine a_cV_Si (r := x1) (ci := 12) (as := [.int v302, .int v303, .int v304, .int v305, .int v306]) (st := []) dL_law_1440 (c_X11_price l g h N x1 v302 v303 v304 v305 v306) rfl km_X11_price (hm_X11_price) rfl (by decide) rfl (fun _ ee => g_X11_price ee) w_methodLink_RainCoverLaw_124 w_instanceMethod_RainCover_price__IIIII_I w_selects_RainCover_RainCover_price__IIIII_I_RainCover_price__IIIII_I ⟨⟨by decide, by decide⟩, ⟨by show k + 0 ≤ 600000; omega, by show n + 0 ≤ 7302250; omega⟩⟩ (Nat.le_of_ble_eq_true rfl) (fun q307 => ?_)
  refine a_aload_n dL_law_1443 rfl 2 rfl ?_
  refine a_aload_n dL_law_1444 rfl 0 rfl ?_
  refine a_iload_n dL_law_1445 rfl 3 rfl ?_
  refine a_iconst (v := 1) dL_law_1446 (by decide) ?_
  refine a_iadd dL_law_1447 ?_
  refine a_iald dL_law_1448 (fun v308 => ?_)
  refine a_aload_n dL_law_1449 rfl 0 rfl ?_
  refine a_iload_n dL_law_1450 rfl 3 rfl ?_
  refine a_iconst (v := 2) dL_law_1451 (by decide) ?_
  refine a_iadd dL_law_1452 ?_
  refine a_iald dL_law_1453 (fun v309 => ?_)
  refine a_aload_n dL_law_1454 rfl 0 rfl ?_
  refine a_iload_n dL_law_1455 rfl 3 rfl ?_
  refine a_iconst (v := 3) dL_law_1456 (by decide) ?_
  refine a_iadd dL_law_1457 ?_
  refine a_iald dL_law_1458 (fun v310 => ?_)
  refine a_aload_n dL_law_1459 rfl 0 rfl ?_
  refine a_iload_n dL_law_1460 rfl 3 rfl ?_
  refine a_iconst (v := 4) dL_law_1461 (by decide) ?_
  refine a_iadd dL_law_1462 ?_
  refine a_iald dL_law_1463 (fun v311 => ?_)
  refine a_aload_n dL_law_1464 rfl 0 rfl ?_
  refine a_iload_n dL_law_1465 rfl 3 rfl ?_
  refine a_iconst (v := 5) dL_law_1466 (by decide) ?_
  refine a_iadd dL_law_1467 ?_
  refine a_iald dL_law_1468 (fun v312 => ?_)
  refine a_cV_Pi (r := x2) (ci := 13) (as := [.int v308, .int v309, .int v310, .int v311, .int v312]) (st := [.int q307.1]) dL_law_1469 (c_X12_price l g q307.2 N x2 v308 v309 v310 v311 v312) rfl km_X12_price (hm_X12_price) rfl (by decide) rfl (fun _ ee => g_X12_price ee) w_methodLink_RainCoverLaw_127 w_instanceMethod_RainCoverModel_price__IIIII_I w_selects_RainCoverModel_RainCoverModel_price__IIIII_I_RainCoverModel_price__IIIII_I ⟨⟨by decide, by decide⟩, ⟨by show k + 0 ≤ 600000; omega, by show n + 0 ≤ 7302250; omega⟩⟩ (Nat.le_of_ble_eq_true rfl) (fun v313 => ?_)
  refine a_icmp_eq 2505 dL_law_1472 (by decide) (fun c314 => ?_) (fun c314 => ?_)
  · refine a_widen (k + 7) (n + 100) (by omega) (by omega) ?_
    exact t_L_law_b2505 h0 N k n hk hn K18 hK18 q307.2 x0 x1 x2 x3
  · refine a_iconst (v := 0) dL_law_1475 (by decide) ?_
    exact a_zret dL_law_1476 rfl (Or.inl rfl) rfl (by show k ≤ 600000; omega) (by show n ≤ 7302250; omega)
set_option maxRecDepth 100000 in
set_option maxHeartbeats 40000000 in
theorem t_L_law_b1477 (h0 : AH) (N : Nat) (k n : Nat) (hk : k + 10 ≤ 600000) (hn : n + 120 ≤ 7302250) (K18 : AH → Nat → Nat → Nat → Int32 → Option (Int32 × AH)) (hK18 : ∀ (z : AH) (z0 : Nat) (z1 : Nat) (z2 : Nat) (z3 : Int32) , AO l g M_L_law true h0 18 [(0, .ref z0), (1, .ref z1), (2, .ref z2), (3, .int z3)] [] z (k + 7) (n + 100) rSi (K18 z z0 z1 z2 z3)) (h : AH) (x0 : Nat) (x1 : Nat) (x2 : Nat) (x3 : Int32) : AO l g M_L_law true h0 1477 [(0, .ref x0), (1, .ref x1), (2, .ref x2), (3, .int x3)] [] h k n rSi (f_L_law_b1477 N K18 h x0 x1 x2 x3) := by
  unfold f_L_law_b1477
  refine a_aload_n dL_law_1477 rfl 1 rfl ?_
  refine a_aload_n dL_law_1478 rfl 0 rfl ?_
  refine a_iload_n dL_law_1479 rfl 3 rfl ?_
  refine a_iconst (v := 1) dL_law_1480 (by decide) ?_
  refine a_iadd dL_law_1481 ?_
  refine a_iald dL_law_1482 (fun v315 => ?_)
  refine a_aload_n dL_law_1483 rfl 0 rfl ?_
  refine a_iload_n dL_law_1484 rfl 3 rfl ?_
  refine a_iconst (v := 2) dL_law_1485 (by decide) ?_
  refine a_iadd dL_law_1486 ?_
  refine a_iald dL_law_1487 (fun v316 => ?_)
  refine a_aload_n dL_law_1488 rfl 0 rfl ?_
  refine a_iload_n dL_law_1489 rfl 3 rfl ?_
  refine a_iconst (v := 3) dL_law_1490 (by decide) ?_
  refine a_iadd dL_law_1491 ?_
  refine a_iald dL_law_1492 (fun v317 => ?_)
  refine a_aload_n dL_law_1493 rfl 0 rfl ?_
  refine a_iload_n dL_law_1494 rfl 3 rfl ?_
  refine a_iconst (v := 4) dL_law_1495 (by decide) ?_
  refine a_iadd dL_law_1496 ?_
  refine a_iald dL_law_1497 (fun v318 => ?_)
  refine a_aload_n dL_law_1498 rfl 0 rfl ?_
  refine a_iload_n dL_law_1499 rfl 3 rfl ?_
  refine a_iconst (v := 5) dL_law_1500 (by decide) ?_
  refine a_iadd dL_law_1501 ?_
  refine a_iald dL_law_1502 (fun v319 => ?_)
  refine a_cV_Sl (r := x1) (ci := 12) (as := [.int v315, .int v316, .int v317, .int v318, .int v319]) (st := []) dL_law_1503 (c_X11_trend l g h N x1 v315 v316 v317 v318 v319) rfl km_X11_trend (hm_X11_trend) rfl (by decide) rfl (fun _ ee => g_X11_trend ee) w_methodLink_RainCoverLaw_128 w_instanceMethod_RainCover_trend__IIIII_J w_selects_RainCover_RainCover_trend__IIIII_J_RainCover_trend__IIIII_J ⟨⟨by decide, by decide⟩, ⟨by show k + 0 ≤ 600000; omega, by show n + 0 ≤ 7302250; omega⟩⟩ (Nat.le_of_ble_eq_true rfl) (fun q320 => ?_)
  refine a_aload_n dL_law_1506 rfl 2 rfl ?_
  refine a_aload_n dL_law_1507 rfl 0 rfl ?_
  refine a_iload_n dL_law_1508 rfl 3 rfl ?_
  refine a_iconst (v := 1) dL_law_1509 (by decide) ?_
  refine a_iadd dL_law_1510 ?_
  refine a_iald dL_law_1511 (fun v321 => ?_)
  refine a_aload_n dL_law_1512 rfl 0 rfl ?_
  refine a_iload_n dL_law_1513 rfl 3 rfl ?_
  refine a_iconst (v := 2) dL_law_1514 (by decide) ?_
  refine a_iadd dL_law_1515 ?_
  refine a_iald dL_law_1516 (fun v322 => ?_)
  refine a_aload_n dL_law_1517 rfl 0 rfl ?_
  refine a_iload_n dL_law_1518 rfl 3 rfl ?_
  refine a_iconst (v := 3) dL_law_1519 (by decide) ?_
  refine a_iadd dL_law_1520 ?_
  refine a_iald dL_law_1521 (fun v323 => ?_)
  refine a_aload_n dL_law_1522 rfl 0 rfl ?_
  refine a_iload_n dL_law_1523 rfl 3 rfl ?_
  refine a_iconst (v := 4) dL_law_1524 (by decide) ?_
  refine a_iadd dL_law_1525 ?_
  refine a_iald dL_law_1526 (fun v324 => ?_)
  refine a_aload_n dL_law_1527 rfl 0 rfl ?_
  refine a_iload_n dL_law_1528 rfl 3 rfl ?_
  refine a_iconst (v := 5) dL_law_1529 (by decide) ?_
  refine a_iadd dL_law_1530 ?_
  refine a_iald dL_law_1531 (fun v325 => ?_)
  refine a_cV_Pl (r := x2) (ci := 13) (as := [.int v321, .int v322, .int v323, .int v324, .int v325]) (st := [.long q320.1]) dL_law_1532 (c_X12_trend l g q320.2 N x2 v321 v322 v323 v324 v325) rfl km_X12_trend (hm_X12_trend) rfl (by decide) rfl (fun _ ee => g_X12_trend ee) w_methodLink_RainCoverLaw_131 w_instanceMethod_RainCoverModel_trend__IIIII_J w_selects_RainCoverModel_RainCoverModel_trend__IIIII_J_RainCoverModel_trend__IIIII_J ⟨⟨by decide, by decide⟩, ⟨by show k + 0 ≤ 600000; omega, by show n + 0 ≤ 7302250; omega⟩⟩ (Nat.le_of_ble_eq_true rfl) (fun v326 => ?_)
  refine a_lcmp dL_law_1535 ?_
  refine a_if_eq 2505 dL_law_1536 (by decide) (fun c327 => ?_) (fun c327 => ?_)
  · refine a_widen (k + 7) (n + 100) (by omega) (by omega) ?_
    exact t_L_law_b2505 h0 N k n hk hn K18 hK18 q320.2 x0 x1 x2 x3
  · refine a_iconst (v := 0) dL_law_1539 (by decide) ?_
    exact a_zret dL_law_1540 rfl (Or.inl rfl) rfl (by show k ≤ 600000; omega) (by show n ≤ 7302250; omega)
set_option maxRecDepth 100000 in
set_option maxHeartbeats 40000000 in
theorem t_L_law_b1541 (h0 : AH) (N : Nat) (k n : Nat) (hk : k + 10 ≤ 600000) (hn : n + 120 ≤ 7302250) (K18 : AH → Nat → Nat → Nat → Int32 → Option (Int32 × AH)) (hK18 : ∀ (z : AH) (z0 : Nat) (z1 : Nat) (z2 : Nat) (z3 : Int32) , AO l g M_L_law true h0 18 [(0, .ref z0), (1, .ref z1), (2, .ref z2), (3, .int z3)] [] z (k + 7) (n + 100) rSi (K18 z z0 z1 z2 z3)) (h : AH) (x0 : Nat) (x1 : Nat) (x2 : Nat) (x3 : Int32) : AO l g M_L_law true h0 1541 [(0, .ref x0), (1, .ref x1), (2, .ref x2), (3, .int x3)] [] h k n rSi (f_L_law_b1541 N K18 h x0 x1 x2 x3) := by
  unfold f_L_law_b1541
  refine a_aload_n dL_law_1541 rfl 1 rfl ?_
  refine a_aload_n dL_law_1542 rfl 0 rfl ?_
  refine a_iload_n dL_law_1543 rfl 3 rfl ?_
  refine a_iconst (v := 1) dL_law_1544 (by decide) ?_
  refine a_iadd dL_law_1545 ?_
  refine a_iald dL_law_1546 (fun v328 => ?_)
  refine a_aload_n dL_law_1547 rfl 0 rfl ?_
  refine a_iload_n dL_law_1548 rfl 3 rfl ?_
  refine a_iconst (v := 2) dL_law_1549 (by decide) ?_
  refine a_iadd dL_law_1550 ?_
  refine a_iald dL_law_1551 (fun v329 => ?_)
  refine a_aload_n dL_law_1552 rfl 0 rfl ?_
  refine a_iload_n dL_law_1553 rfl 3 rfl ?_
  refine a_iconst (v := 3) dL_law_1554 (by decide) ?_
  refine a_iadd dL_law_1555 ?_
  refine a_iald dL_law_1556 (fun v330 => ?_)
  refine a_aload_n dL_law_1557 rfl 0 rfl ?_
  refine a_iload_n dL_law_1558 rfl 3 rfl ?_
  refine a_iconst (v := 4) dL_law_1559 (by decide) ?_
  refine a_iadd dL_law_1560 ?_
  refine a_iald dL_law_1561 (fun v331 => ?_)
  refine a_aload_n dL_law_1562 rfl 0 rfl ?_
  refine a_iload_n dL_law_1563 rfl 3 rfl ?_
  refine a_iconst (v := 5) dL_law_1564 (by decide) ?_
  refine a_iadd dL_law_1565 ?_
  refine a_iald dL_law_1566 (fun v332 => ?_)
  refine a_aload_n dL_law_1567 rfl 0 rfl ?_
  refine a_iload_n dL_law_1568 rfl 3 rfl ?_
  refine a_bipush (v := 6) dL_law_1569 (by decide) ?_
  refine a_iadd dL_law_1571 ?_
  refine a_iald dL_law_1572 (fun v333 => ?_)
  refine a_cV_Si (r := x1) (ci := 12) (as := [.int v328, .int v329, .int v330, .int v331, .int v332, .int v333]) (st := []) dL_law_1573 (c_X11_beside l g h N x1 v328 v329 v330 v331 v332 v333) rfl km_X11_beside (hm_X11_beside) rfl (by decide) rfl (fun _ ee => g_X11_beside ee) w_methodLink_RainCoverLaw_132 w_instanceMethod_RainCover_beside__IIIIII_I w_selects_RainCover_RainCover_beside__IIIIII_I_RainCover_beside__IIIIII_I ⟨⟨by decide, by decide⟩, ⟨by show k + 0 ≤ 600000; omega, by show n + 0 ≤ 7302250; omega⟩⟩ (Nat.le_of_ble_eq_true rfl) (fun q334 => ?_)
  refine a_aload_n dL_law_1576 rfl 2 rfl ?_
  refine a_aload_n dL_law_1577 rfl 0 rfl ?_
  refine a_iload_n dL_law_1578 rfl 3 rfl ?_
  refine a_iconst (v := 1) dL_law_1579 (by decide) ?_
  refine a_iadd dL_law_1580 ?_
  refine a_iald dL_law_1581 (fun v335 => ?_)
  refine a_aload_n dL_law_1582 rfl 0 rfl ?_
  refine a_iload_n dL_law_1583 rfl 3 rfl ?_
  refine a_iconst (v := 2) dL_law_1584 (by decide) ?_
  refine a_iadd dL_law_1585 ?_
  refine a_iald dL_law_1586 (fun v336 => ?_)
  refine a_aload_n dL_law_1587 rfl 0 rfl ?_
  refine a_iload_n dL_law_1588 rfl 3 rfl ?_
  refine a_iconst (v := 3) dL_law_1589 (by decide) ?_
  refine a_iadd dL_law_1590 ?_
  refine a_iald dL_law_1591 (fun v337 => ?_)
  refine a_aload_n dL_law_1592 rfl 0 rfl ?_
  refine a_iload_n dL_law_1593 rfl 3 rfl ?_
  refine a_iconst (v := 4) dL_law_1594 (by decide) ?_
  refine a_iadd dL_law_1595 ?_
  refine a_iald dL_law_1596 (fun v338 => ?_)
  refine a_aload_n dL_law_1597 rfl 0 rfl ?_
  refine a_iload_n dL_law_1598 rfl 3 rfl ?_
  refine a_iconst (v := 5) dL_law_1599 (by decide) ?_
  refine a_iadd dL_law_1600 ?_
  refine a_iald dL_law_1601 (fun v339 => ?_)
  refine a_aload_n dL_law_1602 rfl 0 rfl ?_
  refine a_iload_n dL_law_1603 rfl 3 rfl ?_
  refine a_bipush (v := 6) dL_law_1604 (by decide) ?_
  refine a_iadd dL_law_1606 ?_
  refine a_iald dL_law_1607 (fun v340 => ?_)
  refine a_cV_Pi (r := x2) (ci := 13) (as := [.int v335, .int v336, .int v337, .int v338, .int v339, .int v340]) (st := [.int q334.1]) dL_law_1608 (c_X12_beside l g q334.2 N x2 v335 v336 v337 v338 v339 v340) rfl km_X12_beside (hm_X12_beside) rfl (by decide) rfl (fun _ ee => g_X12_beside ee) w_methodLink_RainCoverLaw_136 w_instanceMethod_RainCoverModel_beside__IIIIII_I w_selects_RainCoverModel_RainCoverModel_beside__IIIIII_I_RainCoverModel_beside__IIIIII_I ⟨⟨by decide, by decide⟩, ⟨by show k + 0 ≤ 600000; omega, by show n + 0 ≤ 7302250; omega⟩⟩ (Nat.le_of_ble_eq_true rfl) (fun v341 => ?_)
  refine a_icmp_eq 2505 dL_law_1611 (by decide) (fun c342 => ?_) (fun c342 => ?_)
  · refine a_widen (k + 7) (n + 100) (by omega) (by omega) ?_
    exact t_L_law_b2505 h0 N k n hk hn K18 hK18 q334.2 x0 x1 x2 x3
  · refine a_iconst (v := 0) dL_law_1614 (by decide) ?_
    exact a_zret dL_law_1615 rfl (Or.inl rfl) rfl (by show k ≤ 600000; omega) (by show n ≤ 7302250; omega)
set_option maxRecDepth 100000 in
set_option maxHeartbeats 40000000 in
theorem t_L_law_b1616 (h0 : AH) (N : Nat) (k n : Nat) (hk : k + 10 ≤ 600000) (hn : n + 120 ≤ 7302250) (K18 : AH → Nat → Nat → Nat → Int32 → Option (Int32 × AH)) (hK18 : ∀ (z : AH) (z0 : Nat) (z1 : Nat) (z2 : Nat) (z3 : Int32) , AO l g M_L_law true h0 18 [(0, .ref z0), (1, .ref z1), (2, .ref z2), (3, .int z3)] [] z (k + 7) (n + 100) rSi (K18 z z0 z1 z2 z3)) (h : AH) (x0 : Nat) (x1 : Nat) (x2 : Nat) (x3 : Int32) : AO l g M_L_law true h0 1616 [(0, .ref x0), (1, .ref x1), (2, .ref x2), (3, .int x3)] [] h k n rSi (f_L_law_b1616 N K18 h x0 x1 x2 x3) := by
  unfold f_L_law_b1616
  refine a_aload_n dL_law_1616 rfl 1 rfl ?_
  refine a_aload_n dL_law_1617 rfl 0 rfl ?_
  refine a_iload_n dL_law_1618 rfl 3 rfl ?_
  refine a_iconst (v := 1) dL_law_1619 (by decide) ?_
  refine a_iadd dL_law_1620 ?_
  refine a_iald dL_law_1621 (fun v343 => ?_)
  refine a_aload_n dL_law_1622 rfl 0 rfl ?_
  refine a_iload_n dL_law_1623 rfl 3 rfl ?_
  refine a_iconst (v := 2) dL_law_1624 (by decide) ?_
  refine a_iadd dL_law_1625 ?_
  refine a_iald dL_law_1626 (fun v344 => ?_)
  refine a_aload_n dL_law_1627 rfl 0 rfl ?_
  refine a_iload_n dL_law_1628 rfl 3 rfl ?_
  refine a_iconst (v := 3) dL_law_1629 (by decide) ?_
  refine a_iadd dL_law_1630 ?_
  refine a_iald dL_law_1631 (fun v345 => ?_)
  refine a_aload_n dL_law_1632 rfl 0 rfl ?_
  refine a_iload_n dL_law_1633 rfl 3 rfl ?_
  refine a_iconst (v := 4) dL_law_1634 (by decide) ?_
  refine a_iadd dL_law_1635 ?_
  refine a_iald dL_law_1636 (fun v346 => ?_)
  refine a_aload_n dL_law_1637 rfl 0 rfl ?_
  refine a_iload_n dL_law_1638 rfl 3 rfl ?_
  refine a_iconst (v := 5) dL_law_1639 (by decide) ?_
  refine a_iadd dL_law_1640 ?_
  refine a_iald dL_law_1641 (fun v347 => ?_)
  refine a_aload_n dL_law_1642 rfl 0 rfl ?_
  refine a_iload_n dL_law_1643 rfl 3 rfl ?_
  refine a_bipush (v := 6) dL_law_1644 (by decide) ?_
  refine a_iadd dL_law_1646 ?_
  refine a_iald dL_law_1647 (fun v348 => ?_)
  refine a_aload_n dL_law_1648 rfl 0 rfl ?_
  refine a_iload_n dL_law_1649 rfl 3 rfl ?_
  refine a_bipush (v := 7) dL_law_1650 (by decide) ?_
  refine a_iadd dL_law_1652 ?_
  refine a_iald dL_law_1653 (fun v349 => ?_)
  refine a_cV_Si (r := x1) (ci := 12) (as := [.int v343, .int v344, .int v345, .int v346, .int v347, .int v348, .int v349]) (st := []) dL_law_1654 (c_X11_foretold l g h N x1 v343 v344 v345 v346 v347 v348 v349) rfl km_X11_foretold (hm_X11_foretold) rfl (by decide) rfl (fun _ ee => g_X11_foretold ee) w_methodLink_RainCoverLaw_137 w_instanceMethod_RainCover_foretold__IIIIIII_I w_selects_RainCover_RainCover_foretold__IIIIIII_I_RainCover_foretold__IIIIIII_I ⟨⟨by decide, by decide⟩, ⟨by show k + 0 ≤ 600000; omega, by show n + 0 ≤ 7302250; omega⟩⟩ (Nat.le_of_ble_eq_true rfl) (fun q350 => ?_)
  refine a_aload_n dL_law_1657 rfl 2 rfl ?_
  refine a_aload_n dL_law_1658 rfl 0 rfl ?_
  refine a_iload_n dL_law_1659 rfl 3 rfl ?_
  refine a_iconst (v := 1) dL_law_1660 (by decide) ?_
  refine a_iadd dL_law_1661 ?_
  refine a_iald dL_law_1662 (fun v351 => ?_)
  refine a_aload_n dL_law_1663 rfl 0 rfl ?_
  refine a_iload_n dL_law_1664 rfl 3 rfl ?_
  refine a_iconst (v := 2) dL_law_1665 (by decide) ?_
  refine a_iadd dL_law_1666 ?_
  refine a_iald dL_law_1667 (fun v352 => ?_)
  refine a_aload_n dL_law_1668 rfl 0 rfl ?_
  refine a_iload_n dL_law_1669 rfl 3 rfl ?_
  refine a_iconst (v := 3) dL_law_1670 (by decide) ?_
  refine a_iadd dL_law_1671 ?_
  refine a_iald dL_law_1672 (fun v353 => ?_)
  refine a_aload_n dL_law_1673 rfl 0 rfl ?_
  refine a_iload_n dL_law_1674 rfl 3 rfl ?_
  refine a_iconst (v := 4) dL_law_1675 (by decide) ?_
  refine a_iadd dL_law_1676 ?_
  refine a_iald dL_law_1677 (fun v354 => ?_)
  refine a_aload_n dL_law_1678 rfl 0 rfl ?_
  refine a_iload_n dL_law_1679 rfl 3 rfl ?_
  refine a_iconst (v := 5) dL_law_1680 (by decide) ?_
  refine a_iadd dL_law_1681 ?_
  refine a_iald dL_law_1682 (fun v355 => ?_)
  refine a_aload_n dL_law_1683 rfl 0 rfl ?_
  refine a_iload_n dL_law_1684 rfl 3 rfl ?_
  refine a_bipush (v := 6) dL_law_1685 (by decide) ?_
  refine a_iadd dL_law_1687 ?_
  refine a_iald dL_law_1688 (fun v356 => ?_)
  refine a_aload_n dL_law_1689 rfl 0 rfl ?_
  refine a_iload_n dL_law_1690 rfl 3 rfl ?_
  refine a_bipush (v := 7) dL_law_1691 (by decide) ?_
  refine a_iadd dL_law_1693 ?_
  refine a_iald dL_law_1694 (fun v357 => ?_)
  refine a_cV_Si (r := x2) (ci := 13) (as := [.int v351, .int v352, .int v353, .int v354, .int v355, .int v356, .int v357]) (st := [.int q350.1]) dL_law_1695 (c_X12_foretold l g q350.2 N x2 v351 v352 v353 v354 v355 v356 v357) rfl km_X12_foretold (hm_X12_foretold) rfl (by decide) rfl (fun _ ee => g_X12_foretold ee) w_methodLink_RainCoverLaw_141 w_instanceMethod_RainCoverModel_foretold__IIIIIII_I w_selects_RainCoverModel_RainCoverModel_foretold__IIIIIII_I_RainCoverModel_foretold__IIIIIII_I ⟨⟨by decide, by decide⟩, ⟨by show k + 0 ≤ 600000; omega, by show n + 0 ≤ 7302250; omega⟩⟩ (Nat.le_of_ble_eq_true rfl) (fun q358 => ?_)
  refine a_icmp_eq 2505 dL_law_1698 (by decide) (fun c359 => ?_) (fun c359 => ?_)
  · refine a_widen (k + 7) (n + 100) (by omega) (by omega) ?_
    exact t_L_law_b2505 h0 N k n hk hn K18 hK18 q358.2 x0 x1 x2 x3
  · refine a_iconst (v := 0) dL_law_1701 (by decide) ?_
    exact a_zret dL_law_1702 rfl (Or.inl rfl) rfl (by show k ≤ 600000; omega) (by show n ≤ 7302250; omega)
set_option maxRecDepth 100000 in
set_option maxHeartbeats 40000000 in
theorem t_L_law_b1703 (h0 : AH) (N : Nat) (k n : Nat) (hk : k + 10 ≤ 600000) (hn : n + 120 ≤ 7302250) (K18 : AH → Nat → Nat → Nat → Int32 → Option (Int32 × AH)) (hK18 : ∀ (z : AH) (z0 : Nat) (z1 : Nat) (z2 : Nat) (z3 : Int32) , AO l g M_L_law true h0 18 [(0, .ref z0), (1, .ref z1), (2, .ref z2), (3, .int z3)] [] z (k + 7) (n + 100) rSi (K18 z z0 z1 z2 z3)) (h : AH) (x0 : Nat) (x1 : Nat) (x2 : Nat) (x3 : Int32) : AO l g M_L_law true h0 1703 [(0, .ref x0), (1, .ref x1), (2, .ref x2), (3, .int x3)] [] h k n rSi (f_L_law_b1703 N K18 h x0 x1 x2 x3) := by
  unfold f_L_law_b1703
  refine a_aload_n dL_law_1703 rfl 1 rfl ?_
  refine a_aload_n dL_law_1704 rfl 0 rfl ?_
  refine a_iload_n dL_law_1705 rfl 3 rfl ?_
  refine a_iconst (v := 1) dL_law_1706 (by decide) ?_
  refine a_iadd dL_law_1707 ?_
  refine a_iald dL_law_1708 (fun v360 => ?_)
  refine a_cV_Si (r := x1) (ci := 12) (as := [.int v360]) (st := []) dL_law_1709 (c_X11_income l g h N x1 v360) rfl km_X11_income (hm_X11_income) rfl (by decide) rfl (fun _ ee => g_X11_income ee) w_methodLink_RainCoverLaw_142 w_instanceMethod_RainCover_income__I_I w_selects_RainCover_RainCover_income__I_I_RainCover_income__I_I ⟨⟨by decide, by decide⟩, ⟨by show k + 0 ≤ 600000; omega, by show n + 0 ≤ 7302250; omega⟩⟩ (Nat.le_of_ble_eq_true rfl) (fun q361 => ?_)
  refine a_aload_n dL_law_1712 rfl 2 rfl ?_
  refine a_aload_n dL_law_1713 rfl 0 rfl ?_
  refine a_iload_n dL_law_1714 rfl 3 rfl ?_
  refine a_iconst (v := 1) dL_law_1715 (by decide) ?_
  refine a_iadd dL_law_1716 ?_
  refine a_iald dL_law_1717 (fun v362 => ?_)
  refine a_cV_Pi (r := x2) (ci := 13) (as := [.int v362]) (st := [.int q361.1]) dL_law_1718 (c_X12_income l g q361.2 N x2 v362) rfl km_X12_income (hm_X12_income) rfl (by decide) rfl (fun _ ee => g_X12_income ee) w_methodLink_RainCoverLaw_146 w_instanceMethod_RainCoverModel_income__I_I w_selects_RainCoverModel_RainCoverModel_income__I_I_RainCoverModel_income__I_I ⟨⟨by decide, by decide⟩, ⟨by show k + 0 ≤ 600000; omega, by show n + 0 ≤ 7302250; omega⟩⟩ (Nat.le_of_ble_eq_true rfl) (fun v363 => ?_)
  refine a_icmp_eq 2505 dL_law_1721 (by decide) (fun c364 => ?_) (fun c364 => ?_)
  · refine a_widen (k + 7) (n + 100) (by omega) (by omega) ?_
    exact t_L_law_b2505 h0 N k n hk hn K18 hK18 q361.2 x0 x1 x2 x3
  · refine a_iconst (v := 0) dL_law_1724 (by decide) ?_
    exact a_zret dL_law_1725 rfl (Or.inl rfl) rfl (by show k ≤ 600000; omega) (by show n ≤ 7302250; omega)
set_option maxRecDepth 100000 in
set_option maxHeartbeats 40000000 in
theorem t_L_law_b1726 (h0 : AH) (N : Nat) (k n : Nat) (hk : k + 10 ≤ 600000) (hn : n + 120 ≤ 7302250) (K18 : AH → Nat → Nat → Nat → Int32 → Option (Int32 × AH)) (hK18 : ∀ (z : AH) (z0 : Nat) (z1 : Nat) (z2 : Nat) (z3 : Int32) , AO l g M_L_law true h0 18 [(0, .ref z0), (1, .ref z1), (2, .ref z2), (3, .int z3)] [] z (k + 7) (n + 100) rSi (K18 z z0 z1 z2 z3)) (h : AH) (x0 : Nat) (x1 : Nat) (x2 : Nat) (x3 : Int32) : AO l g M_L_law true h0 1726 [(0, .ref x0), (1, .ref x1), (2, .ref x2), (3, .int x3)] [] h k n rSi (f_L_law_b1726 N K18 h x0 x1 x2 x3) := by
  unfold f_L_law_b1726
  refine a_aload_n dL_law_1726 rfl 1 rfl ?_
  refine a_aload_n dL_law_1727 rfl 0 rfl ?_
  refine a_iload_n dL_law_1728 rfl 3 rfl ?_
  refine a_iconst (v := 1) dL_law_1729 (by decide) ?_
  refine a_iadd dL_law_1730 ?_
  refine a_iald dL_law_1731 (fun v365 => ?_)
  refine a_aload_n dL_law_1732 rfl 0 rfl ?_
  refine a_iload_n dL_law_1733 rfl 3 rfl ?_
  refine a_iconst (v := 2) dL_law_1734 (by decide) ?_
  refine a_iadd dL_law_1735 ?_
  refine a_iald dL_law_1736 (fun v366 => ?_)
  refine a_cV_Si (r := x1) (ci := 12) (as := [.int v365, .int v366]) (st := []) dL_law_1737 (c_X11_total l g h N x1 v365 v366) rfl km_X11_total (hm_X11_total) rfl (by decide) rfl (fun _ ee => g_X11_total ee) w_methodLink_RainCoverLaw_147 w_instanceMethod_RainCover_total__II_I w_selects_RainCover_RainCover_total__II_I_RainCover_total__II_I ⟨⟨by decide, by decide⟩, ⟨by show k + 0 ≤ 600000; omega, by show n + 0 ≤ 7302250; omega⟩⟩ (Nat.le_of_ble_eq_true rfl) (fun q367 => ?_)
  refine a_aload_n dL_law_1740 rfl 2 rfl ?_
  refine a_aload_n dL_law_1741 rfl 0 rfl ?_
  refine a_iload_n dL_law_1742 rfl 3 rfl ?_
  refine a_iconst (v := 1) dL_law_1743 (by decide) ?_
  refine a_iadd dL_law_1744 ?_
  refine a_iald dL_law_1745 (fun v368 => ?_)
  refine a_aload_n dL_law_1746 rfl 0 rfl ?_
  refine a_iload_n dL_law_1747 rfl 3 rfl ?_
  refine a_iconst (v := 2) dL_law_1748 (by decide) ?_
  refine a_iadd dL_law_1749 ?_
  refine a_iald dL_law_1750 (fun v369 => ?_)
  refine a_cV_Pi (r := x2) (ci := 13) (as := [.int v368, .int v369]) (st := [.int q367.1]) dL_law_1751 (c_X12_total l g q367.2 N x2 v368 v369) rfl km_X12_total (hm_X12_total) rfl (by decide) rfl (fun _ ee => g_X12_total ee) w_methodLink_RainCoverLaw_150 w_instanceMethod_RainCoverModel_total__II_I w_selects_RainCoverModel_RainCoverModel_total__II_I_RainCoverModel_total__II_I ⟨⟨by decide, by decide⟩, ⟨by show k + 0 ≤ 600000; omega, by show n + 0 ≤ 7302250; omega⟩⟩ (Nat.le_of_ble_eq_true rfl) (fun v370 => ?_)
  refine a_icmp_eq 2505 dL_law_1754 (by decide) (fun c371 => ?_) (fun c371 => ?_)
  · refine a_widen (k + 7) (n + 100) (by omega) (by omega) ?_
    exact t_L_law_b2505 h0 N k n hk hn K18 hK18 q367.2 x0 x1 x2 x3
  · refine a_iconst (v := 0) dL_law_1757 (by decide) ?_
    exact a_zret dL_law_1758 rfl (Or.inl rfl) rfl (by show k ≤ 600000; omega) (by show n ≤ 7302250; omega)
set_option maxRecDepth 100000 in
set_option maxHeartbeats 40000000 in
theorem t_L_law_b1759 (h0 : AH) (N : Nat) (k n : Nat) (hk : k + 10 ≤ 600000) (hn : n + 120 ≤ 7302250) (K18 : AH → Nat → Nat → Nat → Int32 → Option (Int32 × AH)) (hK18 : ∀ (z : AH) (z0 : Nat) (z1 : Nat) (z2 : Nat) (z3 : Int32) , AO l g M_L_law true h0 18 [(0, .ref z0), (1, .ref z1), (2, .ref z2), (3, .int z3)] [] z (k + 7) (n + 100) rSi (K18 z z0 z1 z2 z3)) (h : AH) (x0 : Nat) (x1 : Nat) (x2 : Nat) (x3 : Int32) : AO l g M_L_law true h0 1759 [(0, .ref x0), (1, .ref x1), (2, .ref x2), (3, .int x3)] [] h k n rSi (f_L_law_b1759 N K18 h x0 x1 x2 x3) := by
  unfold f_L_law_b1759
  refine a_aload_n dL_law_1759 rfl 1 rfl ?_
  refine a_aload_n dL_law_1760 rfl 0 rfl ?_
  refine a_iload_n dL_law_1761 rfl 3 rfl ?_
  refine a_iconst (v := 1) dL_law_1762 (by decide) ?_
  refine a_iadd dL_law_1763 ?_
  refine a_iald dL_law_1764 (fun v372 => ?_)
  refine a_aload_n dL_law_1765 rfl 0 rfl ?_
  refine a_iload_n dL_law_1766 rfl 3 rfl ?_
  refine a_iconst (v := 2) dL_law_1767 (by decide) ?_
  refine a_iadd dL_law_1768 ?_
  refine a_iald dL_law_1769 (fun v373 => ?_)
  refine a_aload_n dL_law_1770 rfl 0 rfl ?_
  refine a_iload_n dL_law_1771 rfl 3 rfl ?_
  refine a_iconst (v := 3) dL_law_1772 (by decide) ?_
  refine a_iadd dL_law_1773 ?_
  refine a_iald dL_law_1774 (fun v374 => ?_)
  refine a_aload_n dL_law_1775 rfl 0 rfl ?_
  refine a_iload_n dL_law_1776 rfl 3 rfl ?_
  refine a_iconst (v := 4) dL_law_1777 (by decide) ?_
  refine a_iadd dL_law_1778 ?_
  refine a_iald dL_law_1779 (fun v375 => ?_)
  refine a_cV_Si (r := x1) (ci := 12) (as := [.int v372, .int v373, .int v374, .int v375]) (st := []) dL_law_1780 (c_X11_layer l g h N x1 v372 v373 v374 v375) rfl km_X11_layer (hm_X11_layer) rfl (by decide) rfl (fun _ ee => g_X11_layer ee) w_methodLink_RainCoverLaw_151 w_instanceMethod_RainCover_layer__IIII_I w_selects_RainCover_RainCover_layer__IIII_I_RainCover_layer__IIII_I ⟨⟨by decide, by decide⟩, ⟨by show k + 0 ≤ 600000; omega, by show n + 0 ≤ 7302250; omega⟩⟩ (Nat.le_of_ble_eq_true rfl) (fun q376 => ?_)
  refine a_aload_n dL_law_1783 rfl 2 rfl ?_
  refine a_aload_n dL_law_1784 rfl 0 rfl ?_
  refine a_iload_n dL_law_1785 rfl 3 rfl ?_
  refine a_iconst (v := 1) dL_law_1786 (by decide) ?_
  refine a_iadd dL_law_1787 ?_
  refine a_iald dL_law_1788 (fun v377 => ?_)
  refine a_aload_n dL_law_1789 rfl 0 rfl ?_
  refine a_iload_n dL_law_1790 rfl 3 rfl ?_
  refine a_iconst (v := 2) dL_law_1791 (by decide) ?_
  refine a_iadd dL_law_1792 ?_
  refine a_iald dL_law_1793 (fun v378 => ?_)
  refine a_aload_n dL_law_1794 rfl 0 rfl ?_
  refine a_iload_n dL_law_1795 rfl 3 rfl ?_
  refine a_iconst (v := 3) dL_law_1796 (by decide) ?_
  refine a_iadd dL_law_1797 ?_
  refine a_iald dL_law_1798 (fun v379 => ?_)
  refine a_aload_n dL_law_1799 rfl 0 rfl ?_
  refine a_iload_n dL_law_1800 rfl 3 rfl ?_
  refine a_iconst (v := 4) dL_law_1801 (by decide) ?_
  refine a_iadd dL_law_1802 ?_
  refine a_iald dL_law_1803 (fun v380 => ?_)
  refine a_cV_Pi (r := x2) (ci := 13) (as := [.int v377, .int v378, .int v379, .int v380]) (st := [.int q376.1]) dL_law_1804 (c_X12_layer l g q376.2 N x2 v377 v378 v379 v380) rfl km_X12_layer (hm_X12_layer) rfl (by decide) rfl (fun _ ee => g_X12_layer ee) w_methodLink_RainCoverLaw_154 w_instanceMethod_RainCoverModel_layer__IIII_I w_selects_RainCoverModel_RainCoverModel_layer__IIII_I_RainCoverModel_layer__IIII_I ⟨⟨by decide, by decide⟩, ⟨by show k + 0 ≤ 600000; omega, by show n + 0 ≤ 7302250; omega⟩⟩ (Nat.le_of_ble_eq_true rfl) (fun v381 => ?_)
  refine a_icmp_eq 2505 dL_law_1807 (by decide) (fun c382 => ?_) (fun c382 => ?_)
  · refine a_widen (k + 7) (n + 100) (by omega) (by omega) ?_
    exact t_L_law_b2505 h0 N k n hk hn K18 hK18 q376.2 x0 x1 x2 x3
  · refine a_iconst (v := 0) dL_law_1810 (by decide) ?_
    exact a_zret dL_law_1811 rfl (Or.inl rfl) rfl (by show k ≤ 600000; omega) (by show n ≤ 7302250; omega)
set_option maxRecDepth 100000 in
set_option maxHeartbeats 40000000 in
theorem t_L_law_b1812 (h0 : AH) (N : Nat) (k n : Nat) (hk : k + 10 ≤ 600000) (hn : n + 120 ≤ 7302250) (K18 : AH → Nat → Nat → Nat → Int32 → Option (Int32 × AH)) (hK18 : ∀ (z : AH) (z0 : Nat) (z1 : Nat) (z2 : Nat) (z3 : Int32) , AO l g M_L_law true h0 18 [(0, .ref z0), (1, .ref z1), (2, .ref z2), (3, .int z3)] [] z (k + 7) (n + 100) rSi (K18 z z0 z1 z2 z3)) (h : AH) (x0 : Nat) (x1 : Nat) (x2 : Nat) (x3 : Int32) : AO l g M_L_law true h0 1812 [(0, .ref x0), (1, .ref x1), (2, .ref x2), (3, .int x3)] [] h k n rSi (f_L_law_b1812 N K18 h x0 x1 x2 x3) := by
  unfold f_L_law_b1812
  refine a_aload_n dL_law_1812 rfl 1 rfl ?_
  refine a_aload_n dL_law_1813 rfl 0 rfl ?_
  refine a_iload_n dL_law_1814 rfl 3 rfl ?_
  refine a_iconst (v := 1) dL_law_1815 (by decide) ?_
  refine a_iadd dL_law_1816 ?_
  refine a_iald dL_law_1817 (fun v383 => ?_)
  refine a_cV_Si (r := x1) (ci := 12) (as := [.int v383]) (st := []) dL_law_1818 (c_X11_lots l g h x1 v383) rfl km_X11_lots (hm_X11_lots) rfl (by decide) rfl (fun _ ee => g_X11_lots ee) w_methodLink_RainCoverLaw_155 w_instanceMethod_RainCover_lots__I_I w_selects_RainCover_RainCover_lots__I_I_RainCover_lots__I_I ⟨⟨by decide, by decide⟩, ⟨by show k + 0 ≤ 600000; omega, by show n + 0 ≤ 7302250; omega⟩⟩ (Nat.le_of_ble_eq_true rfl) (fun q384 => ?_)
  refine a_aload_n dL_law_1821 rfl 2 rfl ?_
  refine a_aload_n dL_law_1822 rfl 0 rfl ?_
  refine a_iload_n dL_law_1823 rfl 3 rfl ?_
  refine a_iconst (v := 1) dL_law_1824 (by decide) ?_
  refine a_iadd dL_law_1825 ?_
  refine a_iald dL_law_1826 (fun v385 => ?_)
  refine a_cV_Si (r := x2) (ci := 13) (as := [.int v385]) (st := [.int q384.1]) dL_law_1827 (c_X12_lots l g q384.2 x2 v385) rfl km_X12_lots (hm_X12_lots) rfl (by decide) rfl (fun _ ee => g_X12_lots ee) w_methodLink_RainCoverLaw_158 w_instanceMethod_RainCoverModel_lots__I_I w_selects_RainCoverModel_RainCoverModel_lots__I_I_RainCoverModel_lots__I_I ⟨⟨by decide, by decide⟩, ⟨by show k + 0 ≤ 600000; omega, by show n + 0 ≤ 7302250; omega⟩⟩ (Nat.le_of_ble_eq_true rfl) (fun q386 => ?_)
  refine a_icmp_eq 2505 dL_law_1830 (by decide) (fun c387 => ?_) (fun c387 => ?_)
  · refine a_widen (k + 7) (n + 100) (by omega) (by omega) ?_
    exact t_L_law_b2505 h0 N k n hk hn K18 hK18 q386.2 x0 x1 x2 x3
  · refine a_iconst (v := 0) dL_law_1833 (by decide) ?_
    exact a_zret dL_law_1834 rfl (Or.inl rfl) rfl (by show k ≤ 600000; omega) (by show n ≤ 7302250; omega)
set_option maxRecDepth 100000 in
set_option maxHeartbeats 40000000 in
theorem t_L_law_b1835 (h0 : AH) (N : Nat) (k n : Nat) (hk : k + 10 ≤ 600000) (hn : n + 120 ≤ 7302250) (K18 : AH → Nat → Nat → Nat → Int32 → Option (Int32 × AH)) (hK18 : ∀ (z : AH) (z0 : Nat) (z1 : Nat) (z2 : Nat) (z3 : Int32) , AO l g M_L_law true h0 18 [(0, .ref z0), (1, .ref z1), (2, .ref z2), (3, .int z3)] [] z (k + 7) (n + 100) rSi (K18 z z0 z1 z2 z3)) (h : AH) (x0 : Nat) (x1 : Nat) (x2 : Nat) (x3 : Int32) : AO l g M_L_law true h0 1835 [(0, .ref x0), (1, .ref x1), (2, .ref x2), (3, .int x3)] [] h k n rSi (f_L_law_b1835 N K18 h x0 x1 x2 x3) := by
  unfold f_L_law_b1835
  refine a_aload_n dL_law_1835 rfl 1 rfl ?_
  refine a_aload_n dL_law_1836 rfl 0 rfl ?_
  refine a_iload_n dL_law_1837 rfl 3 rfl ?_
  refine a_iconst (v := 1) dL_law_1838 (by decide) ?_
  refine a_iadd dL_law_1839 ?_
  refine a_iald dL_law_1840 (fun v388 => ?_)
  refine a_aload_n dL_law_1841 rfl 0 rfl ?_
  refine a_iload_n dL_law_1842 rfl 3 rfl ?_
  refine a_iconst (v := 2) dL_law_1843 (by decide) ?_
  refine a_iadd dL_law_1844 ?_
  refine a_iald dL_law_1845 (fun v389 => ?_)
  refine a_aload_n dL_law_1846 rfl 0 rfl ?_
  refine a_iload_n dL_law_1847 rfl 3 rfl ?_
  refine a_iconst (v := 3) dL_law_1848 (by decide) ?_
  refine a_iadd dL_law_1849 ?_
  refine a_iald dL_law_1850 (fun v390 => ?_)
  refine a_aload_n dL_law_1851 rfl 0 rfl ?_
  refine a_iload_n dL_law_1852 rfl 3 rfl ?_
  refine a_iconst (v := 4) dL_law_1853 (by decide) ?_
  refine a_iadd dL_law_1854 ?_
  refine a_iald dL_law_1855 (fun v391 => ?_)
  refine a_cV_Si (r := x1) (ci := 12) (as := [.int v388, .int v389, .int v390, .int v391]) (st := []) dL_law_1856 (c_X11_lasts l g h N x1 v388 v389 v390 v391) rfl km_X11_lasts (hm_X11_lasts) rfl (by decide) rfl (fun _ ee => g_X11_lasts ee) w_methodLink_RainCoverLaw_159 w_instanceMethod_RainCover_lasts__IIII_I w_selects_RainCover_RainCover_lasts__IIII_I_RainCover_lasts__IIII_I ⟨⟨by decide, by decide⟩, ⟨by show k + 0 ≤ 600000; omega, by show n + 0 ≤ 7302250; omega⟩⟩ (Nat.le_of_ble_eq_true rfl) (fun q392 => ?_)
  refine a_aload_n dL_law_1859 rfl 2 rfl ?_
  refine a_aload_n dL_law_1860 rfl 0 rfl ?_
  refine a_iload_n dL_law_1861 rfl 3 rfl ?_
  refine a_iconst (v := 1) dL_law_1862 (by decide) ?_
  refine a_iadd dL_law_1863 ?_
  refine a_iald dL_law_1864 (fun v393 => ?_)
  refine a_aload_n dL_law_1865 rfl 0 rfl ?_
  refine a_iload_n dL_law_1866 rfl 3 rfl ?_
  refine a_iconst (v := 2) dL_law_1867 (by decide) ?_
  refine a_iadd dL_law_1868 ?_
  refine a_iald dL_law_1869 (fun v394 => ?_)
  refine a_aload_n dL_law_1870 rfl 0 rfl ?_
  refine a_iload_n dL_law_1871 rfl 3 rfl ?_
  refine a_iconst (v := 3) dL_law_1872 (by decide) ?_
  refine a_iadd dL_law_1873 ?_
  refine a_iald dL_law_1874 (fun v395 => ?_)
  refine a_aload_n dL_law_1875 rfl 0 rfl ?_
  refine a_iload_n dL_law_1876 rfl 3 rfl ?_
  refine a_iconst (v := 4) dL_law_1877 (by decide) ?_
  refine a_iadd dL_law_1878 ?_
  refine a_iald dL_law_1879 (fun v396 => ?_)
  refine a_cV_Si (r := x2) (ci := 13) (as := [.int v393, .int v394, .int v395, .int v396]) (st := [.int q392.1]) dL_law_1880 (c_X12_lasts l g q392.2 N x2 v393 v394 v395 v396) rfl km_X12_lasts (hm_X12_lasts) rfl (by decide) rfl (fun _ ee => g_X12_lasts ee) w_methodLink_RainCoverLaw_162 w_instanceMethod_RainCoverModel_lasts__IIII_I w_selects_RainCoverModel_RainCoverModel_lasts__IIII_I_RainCoverModel_lasts__IIII_I ⟨⟨by decide, by decide⟩, ⟨by show k + 0 ≤ 600000; omega, by show n + 0 ≤ 7302250; omega⟩⟩ (Nat.le_of_ble_eq_true rfl) (fun q397 => ?_)
  refine a_icmp_eq 2505 dL_law_1883 (by decide) (fun c398 => ?_) (fun c398 => ?_)
  · refine a_widen (k + 7) (n + 100) (by omega) (by omega) ?_
    exact t_L_law_b2505 h0 N k n hk hn K18 hK18 q397.2 x0 x1 x2 x3
  · refine a_iconst (v := 0) dL_law_1886 (by decide) ?_
    exact a_zret dL_law_1887 rfl (Or.inl rfl) rfl (by show k ≤ 600000; omega) (by show n ≤ 7302250; omega)
set_option maxRecDepth 100000 in
set_option maxHeartbeats 40000000 in
theorem t_L_law_b1888 (h0 : AH) (N : Nat) (k n : Nat) (hk : k + 10 ≤ 600000) (hn : n + 120 ≤ 7302250) (K18 : AH → Nat → Nat → Nat → Int32 → Option (Int32 × AH)) (hK18 : ∀ (z : AH) (z0 : Nat) (z1 : Nat) (z2 : Nat) (z3 : Int32) , AO l g M_L_law true h0 18 [(0, .ref z0), (1, .ref z1), (2, .ref z2), (3, .int z3)] [] z (k + 7) (n + 100) rSi (K18 z z0 z1 z2 z3)) (h : AH) (x0 : Nat) (x1 : Nat) (x2 : Nat) (x3 : Int32) : AO l g M_L_law true h0 1888 [(0, .ref x0), (1, .ref x1), (2, .ref x2), (3, .int x3)] [] h k n rSi (f_L_law_b1888 N K18 h x0 x1 x2 x3) := by
  unfold f_L_law_b1888
  refine a_aload_n dL_law_1888 rfl 1 rfl ?_
  refine a_aload_n dL_law_1889 rfl 0 rfl ?_
  refine a_iload_n dL_law_1890 rfl 3 rfl ?_
  refine a_iconst (v := 1) dL_law_1891 (by decide) ?_
  refine a_iadd dL_law_1892 ?_
  refine a_iald dL_law_1893 (fun v399 => ?_)
  refine a_cV_Si (r := x1) (ci := 12) (as := [.int v399]) (st := []) dL_law_1894 (c_X11_settle l g h N x1 v399) rfl km_X11_settle (hm_X11_settle) rfl (by decide) rfl (fun _ ee => g_X11_settle ee) w_methodLink_RainCoverLaw_163 w_instanceMethod_RainCover_settle__I_I w_selects_RainCover_RainCover_settle__I_I_RainCover_settle__I_I ⟨⟨by decide, by decide⟩, ⟨by show k + 0 ≤ 600000; omega, by show n + 0 ≤ 7302250; omega⟩⟩ (Nat.le_of_ble_eq_true rfl) (fun q400 => ?_)
  refine a_aload_n dL_law_1897 rfl 2 rfl ?_
  refine a_aload_n dL_law_1898 rfl 0 rfl ?_
  refine a_iload_n dL_law_1899 rfl 3 rfl ?_
  refine a_iconst (v := 1) dL_law_1900 (by decide) ?_
  refine a_iadd dL_law_1901 ?_
  refine a_iald dL_law_1902 (fun v401 => ?_)
  refine a_cV_Si (r := x2) (ci := 13) (as := [.int v401]) (st := [.int q400.1]) dL_law_1903 (c_X12_settle l g q400.2 N x2 v401) rfl km_X12_settle (hm_X12_settle) rfl (by decide) rfl (fun _ ee => g_X12_settle ee) w_methodLink_RainCoverLaw_166 w_instanceMethod_RainCoverModel_settle__I_I w_selects_RainCoverModel_RainCoverModel_settle__I_I_RainCoverModel_settle__I_I ⟨⟨by decide, by decide⟩, ⟨by show k + 0 ≤ 600000; omega, by show n + 0 ≤ 7302250; omega⟩⟩ (Nat.le_of_ble_eq_true rfl) (fun q402 => ?_)
  refine a_icmp_eq 2505 dL_law_1906 (by decide) (fun c403 => ?_) (fun c403 => ?_)
  · refine a_widen (k + 7) (n + 100) (by omega) (by omega) ?_
    exact t_L_law_b2505 h0 N k n hk hn K18 hK18 q402.2 x0 x1 x2 x3
  · refine a_iconst (v := 0) dL_law_1909 (by decide) ?_
    exact a_zret dL_law_1910 rfl (Or.inl rfl) rfl (by show k ≤ 600000; omega) (by show n ≤ 7302250; omega)
set_option maxRecDepth 100000 in
set_option maxHeartbeats 40000000 in
theorem t_L_law_b1911 (h0 : AH) (N : Nat) (k n : Nat) (hk : k + 10 ≤ 600000) (hn : n + 120 ≤ 7302250) (K18 : AH → Nat → Nat → Nat → Int32 → Option (Int32 × AH)) (hK18 : ∀ (z : AH) (z0 : Nat) (z1 : Nat) (z2 : Nat) (z3 : Int32) , AO l g M_L_law true h0 18 [(0, .ref z0), (1, .ref z1), (2, .ref z2), (3, .int z3)] [] z (k + 7) (n + 100) rSi (K18 z z0 z1 z2 z3)) (h : AH) (x0 : Nat) (x1 : Nat) (x2 : Nat) (x3 : Int32) : AO l g M_L_law true h0 1911 [(0, .ref x0), (1, .ref x1), (2, .ref x2), (3, .int x3)] [] h k n rSi (f_L_law_b1911 N K18 h x0 x1 x2 x3) := by
  unfold f_L_law_b1911
  refine a_aload_n dL_law_1911 rfl 1 rfl ?_
  refine a_aload_n dL_law_1912 rfl 0 rfl ?_
  refine a_iload_n dL_law_1913 rfl 3 rfl ?_
  refine a_iconst (v := 1) dL_law_1914 (by decide) ?_
  refine a_iadd dL_law_1915 ?_
  refine a_iald dL_law_1916 (fun v404 => ?_)
  refine a_aload_n dL_law_1917 rfl 0 rfl ?_
  refine a_iload_n dL_law_1918 rfl 3 rfl ?_
  refine a_iconst (v := 2) dL_law_1919 (by decide) ?_
  refine a_iadd dL_law_1920 ?_
  refine a_iald dL_law_1921 (fun v405 => ?_)
  refine a_cV_Pi (r := x1) (ci := 12) (as := [.int v404, .int v405]) (st := []) dL_law_1922 (c_X11_payment l g h x1 v404 v405) rfl km_X11_payment (hm_X11_payment) rfl (by decide) rfl (fun _ ee => g_X11_payment ee) w_methodLink_RainCoverLaw_167 w_instanceMethod_RainCover_payment__II_I w_selects_RainCover_RainCover_payment__II_I_RainCover_payment__II_I ⟨⟨by decide, by decide⟩, ⟨by show k + 0 ≤ 600000; omega, by show n + 0 ≤ 7302250; omega⟩⟩ (Nat.le_of_ble_eq_true rfl) (fun v406 => ?_)
  refine a_aload_n dL_law_1925 rfl 2 rfl ?_
  refine a_aload_n dL_law_1926 rfl 0 rfl ?_
  refine a_iload_n dL_law_1927 rfl 3 rfl ?_
  refine a_iconst (v := 1) dL_law_1928 (by decide) ?_
  refine a_iadd dL_law_1929 ?_
  refine a_iald dL_law_1930 (fun v407 => ?_)
  refine a_aload_n dL_law_1931 rfl 0 rfl ?_
  refine a_iload_n dL_law_1932 rfl 3 rfl ?_
  refine a_iconst (v := 2) dL_law_1933 (by decide) ?_
  refine a_iadd dL_law_1934 ?_
  refine a_iald dL_law_1935 (fun v408 => ?_)
  refine a_cV_Pi (r := x2) (ci := 13) (as := [.int v407, .int v408]) (st := [.int v406]) dL_law_1936 (c_X12_payment l g h x2 v407 v408) rfl km_X12_payment (hm_X12_payment) rfl (by decide) rfl (fun _ ee => g_X12_payment ee) w_methodLink_RainCoverLaw_170 w_instanceMethod_RainCoverModel_payment__II_I w_selects_RainCoverModel_RainCoverModel_payment__II_I_RainCoverModel_payment__II_I ⟨⟨by decide, by decide⟩, ⟨by show k + 0 ≤ 600000; omega, by show n + 0 ≤ 7302250; omega⟩⟩ (Nat.le_of_ble_eq_true rfl) (fun v409 => ?_)
  refine a_icmp_eq 2505 dL_law_1939 (by decide) (fun c410 => ?_) (fun c410 => ?_)
  · refine a_widen (k + 7) (n + 100) (by omega) (by omega) ?_
    exact t_L_law_b2505 h0 N k n hk hn K18 hK18 h x0 x1 x2 x3
  · refine a_iconst (v := 0) dL_law_1942 (by decide) ?_
    exact a_zret dL_law_1943 rfl (Or.inl rfl) rfl (by show k ≤ 600000; omega) (by show n ≤ 7302250; omega)
set_option maxRecDepth 100000 in
set_option maxHeartbeats 40000000 in
theorem t_L_law_b1944 (h0 : AH) (N : Nat) (k n : Nat) (hk : k + 10 ≤ 600000) (hn : n + 120 ≤ 7302250) (K18 : AH → Nat → Nat → Nat → Int32 → Option (Int32 × AH)) (hK18 : ∀ (z : AH) (z0 : Nat) (z1 : Nat) (z2 : Nat) (z3 : Int32) , AO l g M_L_law true h0 18 [(0, .ref z0), (1, .ref z1), (2, .ref z2), (3, .int z3)] [] z (k + 7) (n + 100) rSi (K18 z z0 z1 z2 z3)) (h : AH) (x0 : Nat) (x1 : Nat) (x2 : Nat) (x3 : Int32) : AO l g M_L_law true h0 1944 [(0, .ref x0), (1, .ref x1), (2, .ref x2), (3, .int x3)] [] h k n rSi (f_L_law_b1944 N K18 h x0 x1 x2 x3) := by
  unfold f_L_law_b1944
  refine a_aload_n dL_law_1944 rfl 1 rfl ?_
  refine a_aload_n dL_law_1945 rfl 0 rfl ?_
  refine a_iload_n dL_law_1946 rfl 3 rfl ?_
  refine a_iconst (v := 1) dL_law_1947 (by decide) ?_
  refine a_iadd dL_law_1948 ?_
  refine a_iald dL_law_1949 (fun v411 => ?_)
  refine a_cV_Si (r := x1) (ci := 12) (as := [.int v411]) (st := []) dL_law_1950 (c_X11_fund l g h x1 v411) rfl km_X11_fund (hm_X11_fund) rfl (by decide) rfl (fun _ ee => g_X11_fund ee) w_methodLink_RainCoverLaw_171 w_instanceMethod_RainCover_fund__I_I w_selects_RainCover_RainCover_fund__I_I_RainCover_fund__I_I ⟨⟨by decide, by decide⟩, ⟨by show k + 0 ≤ 600000; omega, by show n + 0 ≤ 7302250; omega⟩⟩ (Nat.le_of_ble_eq_true rfl) (fun q412 => ?_)
  refine a_aload_n dL_law_1953 rfl 2 rfl ?_
  refine a_aload_n dL_law_1954 rfl 0 rfl ?_
  refine a_iload_n dL_law_1955 rfl 3 rfl ?_
  refine a_iconst (v := 1) dL_law_1956 (by decide) ?_
  refine a_iadd dL_law_1957 ?_
  refine a_iald dL_law_1958 (fun v413 => ?_)
  refine a_cV_Si (r := x2) (ci := 13) (as := [.int v413]) (st := [.int q412.1]) dL_law_1959 (c_X12_fund l g q412.2 x2 v413) rfl km_X12_fund (hm_X12_fund) rfl (by decide) rfl (fun _ ee => g_X12_fund ee) w_methodLink_RainCoverLaw_174 w_instanceMethod_RainCoverModel_fund__I_I w_selects_RainCoverModel_RainCoverModel_fund__I_I_RainCoverModel_fund__I_I ⟨⟨by decide, by decide⟩, ⟨by show k + 0 ≤ 600000; omega, by show n + 0 ≤ 7302250; omega⟩⟩ (Nat.le_of_ble_eq_true rfl) (fun q414 => ?_)
  refine a_icmp_eq 2505 dL_law_1962 (by decide) (fun c415 => ?_) (fun c415 => ?_)
  · refine a_widen (k + 7) (n + 100) (by omega) (by omega) ?_
    exact t_L_law_b2505 h0 N k n hk hn K18 hK18 q414.2 x0 x1 x2 x3
  · refine a_iconst (v := 0) dL_law_1965 (by decide) ?_
    exact a_zret dL_law_1966 rfl (Or.inl rfl) rfl (by show k ≤ 600000; omega) (by show n ≤ 7302250; omega)
set_option maxRecDepth 100000 in
set_option maxHeartbeats 40000000 in
theorem t_L_law_b1967 (h0 : AH) (N : Nat) (k n : Nat) (hk : k + 10 ≤ 600000) (hn : n + 120 ≤ 7302250) (K18 : AH → Nat → Nat → Nat → Int32 → Option (Int32 × AH)) (hK18 : ∀ (z : AH) (z0 : Nat) (z1 : Nat) (z2 : Nat) (z3 : Int32) , AO l g M_L_law true h0 18 [(0, .ref z0), (1, .ref z1), (2, .ref z2), (3, .int z3)] [] z (k + 7) (n + 100) rSi (K18 z z0 z1 z2 z3)) (h : AH) (x0 : Nat) (x1 : Nat) (x2 : Nat) (x3 : Int32) : AO l g M_L_law true h0 1967 [(0, .ref x0), (1, .ref x1), (2, .ref x2), (3, .int x3)] [] h k n rSi (f_L_law_b1967 N K18 h x0 x1 x2 x3) := by
  unfold f_L_law_b1967
  refine a_aload_n dL_law_1967 rfl 1 rfl ?_
  refine a_aload_n dL_law_1968 rfl 0 rfl ?_
  refine a_iload_n dL_law_1969 rfl 3 rfl ?_
  refine a_iconst (v := 1) dL_law_1970 (by decide) ?_
  refine a_iadd dL_law_1971 ?_
  refine a_iald dL_law_1972 (fun v416 => ?_)
  refine a_cV_Si (r := x1) (ci := 12) (as := [.int v416]) (st := []) dL_law_1973 (c_X11_send l g h x1 v416) rfl km_X11_send (hm_X11_send) rfl (by decide) rfl (fun _ ee => g_X11_send ee) w_methodLink_RainCoverLaw_175 w_instanceMethod_RainCover_send__I_I w_selects_RainCover_RainCover_send__I_I_RainCover_send__I_I ⟨⟨by decide, by decide⟩, ⟨by show k + 0 ≤ 600000; omega, by show n + 0 ≤ 7302250; omega⟩⟩ (Nat.le_of_ble_eq_true rfl) (fun q417 => ?_)
  refine a_aload_n dL_law_1976 rfl 2 rfl ?_
  refine a_aload_n dL_law_1977 rfl 0 rfl ?_
  refine a_iload_n dL_law_1978 rfl 3 rfl ?_
  refine a_iconst (v := 1) dL_law_1979 (by decide) ?_
  refine a_iadd dL_law_1980 ?_
  refine a_iald dL_law_1981 (fun v418 => ?_)
  refine a_cV_Si (r := x2) (ci := 13) (as := [.int v418]) (st := [.int q417.1]) dL_law_1982 (c_X12_send l g q417.2 x2 v418) rfl km_X12_send (hm_X12_send) rfl (by decide) rfl (fun _ ee => g_X12_send ee) w_methodLink_RainCoverLaw_178 w_instanceMethod_RainCoverModel_send__I_I w_selects_RainCoverModel_RainCoverModel_send__I_I_RainCoverModel_send__I_I ⟨⟨by decide, by decide⟩, ⟨by show k + 0 ≤ 600000; omega, by show n + 0 ≤ 7302250; omega⟩⟩ (Nat.le_of_ble_eq_true rfl) (fun q419 => ?_)
  refine a_icmp_eq 2505 dL_law_1985 (by decide) (fun c420 => ?_) (fun c420 => ?_)
  · refine a_widen (k + 7) (n + 100) (by omega) (by omega) ?_
    exact t_L_law_b2505 h0 N k n hk hn K18 hK18 q419.2 x0 x1 x2 x3
  · refine a_iconst (v := 0) dL_law_1988 (by decide) ?_
    exact a_zret dL_law_1989 rfl (Or.inl rfl) rfl (by show k ≤ 600000; omega) (by show n ≤ 7302250; omega)
set_option maxRecDepth 100000 in
set_option maxHeartbeats 40000000 in
theorem t_L_law_b1990 (h0 : AH) (N : Nat) (k n : Nat) (hk : k + 10 ≤ 600000) (hn : n + 120 ≤ 7302250) (K18 : AH → Nat → Nat → Nat → Int32 → Option (Int32 × AH)) (hK18 : ∀ (z : AH) (z0 : Nat) (z1 : Nat) (z2 : Nat) (z3 : Int32) , AO l g M_L_law true h0 18 [(0, .ref z0), (1, .ref z1), (2, .ref z2), (3, .int z3)] [] z (k + 7) (n + 100) rSi (K18 z z0 z1 z2 z3)) (h : AH) (x0 : Nat) (x1 : Nat) (x2 : Nat) (x3 : Int32) : AO l g M_L_law true h0 1990 [(0, .ref x0), (1, .ref x1), (2, .ref x2), (3, .int x3)] [] h k n rSi (f_L_law_b1990 N K18 h x0 x1 x2 x3) := by
  unfold f_L_law_b1990
  refine a_aload_n dL_law_1990 rfl 1 rfl ?_
  refine a_aload_n dL_law_1991 rfl 0 rfl ?_
  refine a_iload_n dL_law_1992 rfl 3 rfl ?_
  refine a_iconst (v := 1) dL_law_1993 (by decide) ?_
  refine a_iadd dL_law_1994 ?_
  refine a_iald dL_law_1995 (fun v421 => ?_)
  refine a_aload_n dL_law_1996 rfl 0 rfl ?_
  refine a_iload_n dL_law_1997 rfl 3 rfl ?_
  refine a_iconst (v := 2) dL_law_1998 (by decide) ?_
  refine a_iadd dL_law_1999 ?_
  refine a_iald dL_law_2000 (fun v422 => ?_)
  refine a_cV_Si (r := x1) (ci := 12) (as := [.int v421, .int v422]) (st := []) dL_law_2001 (c_X11_arrive l g h x1 v421 v422) rfl km_X11_arrive (hm_X11_arrive) rfl (by decide) rfl (fun _ ee => g_X11_arrive ee) w_methodLink_RainCoverLaw_179 w_instanceMethod_RainCover_arrive__II_I w_selects_RainCover_RainCover_arrive__II_I_RainCover_arrive__II_I ⟨⟨by decide, by decide⟩, ⟨by show k + 0 ≤ 600000; omega, by show n + 0 ≤ 7302250; omega⟩⟩ (Nat.le_of_ble_eq_true rfl) (fun q423 => ?_)
  refine a_aload_n dL_law_2004 rfl 2 rfl ?_
  refine a_aload_n dL_law_2005 rfl 0 rfl ?_
  refine a_iload_n dL_law_2006 rfl 3 rfl ?_
  refine a_iconst (v := 1) dL_law_2007 (by decide) ?_
  refine a_iadd dL_law_2008 ?_
  refine a_iald dL_law_2009 (fun v424 => ?_)
  refine a_aload_n dL_law_2010 rfl 0 rfl ?_
  refine a_iload_n dL_law_2011 rfl 3 rfl ?_
  refine a_iconst (v := 2) dL_law_2012 (by decide) ?_
  refine a_iadd dL_law_2013 ?_
  refine a_iald dL_law_2014 (fun v425 => ?_)
  refine a_cV_Si (r := x2) (ci := 13) (as := [.int v424, .int v425]) (st := [.int q423.1]) dL_law_2015 (c_X12_arrive l g q423.2 x2 v424 v425) rfl km_X12_arrive (hm_X12_arrive) rfl (by decide) rfl (fun _ ee => g_X12_arrive ee) w_methodLink_RainCoverLaw_182 w_instanceMethod_RainCoverModel_arrive__II_I w_selects_RainCoverModel_RainCoverModel_arrive__II_I_RainCoverModel_arrive__II_I ⟨⟨by decide, by decide⟩, ⟨by show k + 0 ≤ 600000; omega, by show n + 0 ≤ 7302250; omega⟩⟩ (Nat.le_of_ble_eq_true rfl) (fun q426 => ?_)
  refine a_icmp_eq 2505 dL_law_2018 (by decide) (fun c427 => ?_) (fun c427 => ?_)
  · refine a_widen (k + 7) (n + 100) (by omega) (by omega) ?_
    exact t_L_law_b2505 h0 N k n hk hn K18 hK18 q426.2 x0 x1 x2 x3
  · refine a_iconst (v := 0) dL_law_2021 (by decide) ?_
    exact a_zret dL_law_2022 rfl (Or.inl rfl) rfl (by show k ≤ 600000; omega) (by show n ≤ 7302250; omega)
set_option maxRecDepth 100000 in
set_option maxHeartbeats 40000000 in
theorem t_L_law_b2023 (h0 : AH) (N : Nat) (k n : Nat) (hk : k + 10 ≤ 600000) (hn : n + 120 ≤ 7302250) (K18 : AH → Nat → Nat → Nat → Int32 → Option (Int32 × AH)) (hK18 : ∀ (z : AH) (z0 : Nat) (z1 : Nat) (z2 : Nat) (z3 : Int32) , AO l g M_L_law true h0 18 [(0, .ref z0), (1, .ref z1), (2, .ref z2), (3, .int z3)] [] z (k + 7) (n + 100) rSi (K18 z z0 z1 z2 z3)) (h : AH) (x0 : Nat) (x1 : Nat) (x2 : Nat) (x3 : Int32) : AO l g M_L_law true h0 2023 [(0, .ref x0), (1, .ref x1), (2, .ref x2), (3, .int x3)] [] h k n rSi (f_L_law_b2023 N K18 h x0 x1 x2 x3) := by
  unfold f_L_law_b2023
  refine a_aload_n dL_law_2023 rfl 1 rfl ?_
  refine a_aload_n dL_law_2024 rfl 0 rfl ?_
  refine a_iload_n dL_law_2025 rfl 3 rfl ?_
  refine a_iconst (v := 1) dL_law_2026 (by decide) ?_
  refine a_iadd dL_law_2027 ?_
  refine a_iald dL_law_2028 (fun v428 => ?_)
  refine a_aload_n dL_law_2029 rfl 0 rfl ?_
  refine a_iload_n dL_law_2030 rfl 3 rfl ?_
  refine a_iconst (v := 2) dL_law_2031 (by decide) ?_
  refine a_iadd dL_law_2032 ?_
  refine a_iald dL_law_2033 (fun v429 => ?_)
  refine a_cV_Si (r := x1) (ci := 12) (as := [.int v428, .int v429]) (st := []) dL_law_2034 (c_X11_complain l g h N x1 v428 v429) rfl km_X11_complain (hm_X11_complain) rfl (by decide) rfl (fun _ ee => g_X11_complain ee) w_methodLink_RainCoverLaw_183 w_instanceMethod_RainCover_complain__II_I w_selects_RainCover_RainCover_complain__II_I_RainCover_complain__II_I ⟨⟨by decide, by decide⟩, ⟨by show k + 0 ≤ 600000; omega, by show n + 0 ≤ 7302250; omega⟩⟩ (Nat.le_of_ble_eq_true rfl) (fun q430 => ?_)
  refine a_aload_n dL_law_2037 rfl 2 rfl ?_
  refine a_aload_n dL_law_2038 rfl 0 rfl ?_
  refine a_iload_n dL_law_2039 rfl 3 rfl ?_
  refine a_iconst (v := 1) dL_law_2040 (by decide) ?_
  refine a_iadd dL_law_2041 ?_
  refine a_iald dL_law_2042 (fun v431 => ?_)
  refine a_aload_n dL_law_2043 rfl 0 rfl ?_
  refine a_iload_n dL_law_2044 rfl 3 rfl ?_
  refine a_iconst (v := 2) dL_law_2045 (by decide) ?_
  refine a_iadd dL_law_2046 ?_
  refine a_iald dL_law_2047 (fun v432 => ?_)
  refine a_cV_Si (r := x2) (ci := 13) (as := [.int v431, .int v432]) (st := [.int q430.1]) dL_law_2048 (c_X12_complain l g q430.2 N x2 v431 v432) rfl km_X12_complain (hm_X12_complain) rfl (by decide) rfl (fun _ ee => g_X12_complain ee) w_methodLink_RainCoverLaw_186 w_instanceMethod_RainCoverModel_complain__II_I w_selects_RainCoverModel_RainCoverModel_complain__II_I_RainCoverModel_complain__II_I ⟨⟨by decide, by decide⟩, ⟨by show k + 0 ≤ 600000; omega, by show n + 0 ≤ 7302250; omega⟩⟩ (Nat.le_of_ble_eq_true rfl) (fun q433 => ?_)
  refine a_icmp_eq 2505 dL_law_2051 (by decide) (fun c434 => ?_) (fun c434 => ?_)
  · refine a_widen (k + 7) (n + 100) (by omega) (by omega) ?_
    exact t_L_law_b2505 h0 N k n hk hn K18 hK18 q433.2 x0 x1 x2 x3
  · refine a_iconst (v := 0) dL_law_2054 (by decide) ?_
    exact a_zret dL_law_2055 rfl (Or.inl rfl) rfl (by show k ≤ 600000; omega) (by show n ≤ 7302250; omega)
set_option maxRecDepth 100000 in
set_option maxHeartbeats 40000000 in
theorem t_L_law_b2056 (h0 : AH) (N : Nat) (k n : Nat) (hk : k + 10 ≤ 600000) (hn : n + 120 ≤ 7302250) (K18 : AH → Nat → Nat → Nat → Int32 → Option (Int32 × AH)) (hK18 : ∀ (z : AH) (z0 : Nat) (z1 : Nat) (z2 : Nat) (z3 : Int32) , AO l g M_L_law true h0 18 [(0, .ref z0), (1, .ref z1), (2, .ref z2), (3, .int z3)] [] z (k + 7) (n + 100) rSi (K18 z z0 z1 z2 z3)) (h : AH) (x0 : Nat) (x1 : Nat) (x2 : Nat) (x3 : Int32) : AO l g M_L_law true h0 2056 [(0, .ref x0), (1, .ref x1), (2, .ref x2), (3, .int x3)] [] h k n rSi (f_L_law_b2056 N K18 h x0 x1 x2 x3) := by
  unfold f_L_law_b2056
  refine a_aload_n dL_law_2056 rfl 1 rfl ?_
  refine a_aload_n dL_law_2057 rfl 0 rfl ?_
  refine a_iload_n dL_law_2058 rfl 3 rfl ?_
  refine a_iconst (v := 1) dL_law_2059 (by decide) ?_
  refine a_iadd dL_law_2060 ?_
  refine a_iald dL_law_2061 (fun v435 => ?_)
  refine a_cV_Si (r := x1) (ci := 12) (as := [.int v435]) (st := []) dL_law_2062 (c_X11_judge l g h N x1 v435) rfl km_X11_judge (hm_X11_judge) rfl (by decide) rfl (fun _ ee => g_X11_judge ee) w_methodLink_RainCoverLaw_187 w_instanceMethod_RainCover_judge__I_I w_selects_RainCover_RainCover_judge__I_I_RainCover_judge__I_I ⟨⟨by decide, by decide⟩, ⟨by show k + 0 ≤ 600000; omega, by show n + 0 ≤ 7302250; omega⟩⟩ (Nat.le_of_ble_eq_true rfl) (fun q436 => ?_)
  refine a_aload_n dL_law_2065 rfl 2 rfl ?_
  refine a_aload_n dL_law_2066 rfl 0 rfl ?_
  refine a_iload_n dL_law_2067 rfl 3 rfl ?_
  refine a_iconst (v := 1) dL_law_2068 (by decide) ?_
  refine a_iadd dL_law_2069 ?_
  refine a_iald dL_law_2070 (fun v437 => ?_)
  refine a_cV_Si (r := x2) (ci := 13) (as := [.int v437]) (st := [.int q436.1]) dL_law_2071 (c_X12_judge l g q436.2 N x2 v437) rfl km_X12_judge (hm_X12_judge) rfl (by decide) rfl (fun _ ee => g_X12_judge ee) w_methodLink_RainCoverLaw_190 w_instanceMethod_RainCoverModel_judge__I_I w_selects_RainCoverModel_RainCoverModel_judge__I_I_RainCoverModel_judge__I_I ⟨⟨by decide, by decide⟩, ⟨by show k + 0 ≤ 600000; omega, by show n + 0 ≤ 7302250; omega⟩⟩ (Nat.le_of_ble_eq_true rfl) (fun q438 => ?_)
  refine a_icmp_eq 2505 dL_law_2074 (by decide) (fun c439 => ?_) (fun c439 => ?_)
  · refine a_widen (k + 7) (n + 100) (by omega) (by omega) ?_
    exact t_L_law_b2505 h0 N k n hk hn K18 hK18 q438.2 x0 x1 x2 x3
  · refine a_iconst (v := 0) dL_law_2077 (by decide) ?_
    exact a_zret dL_law_2078 rfl (Or.inl rfl) rfl (by show k ≤ 600000; omega) (by show n ≤ 7302250; omega)
set_option maxRecDepth 100000 in
set_option maxHeartbeats 40000000 in
theorem t_L_law_b2079 (h0 : AH) (N : Nat) (k n : Nat) (hk : k + 10 ≤ 600000) (hn : n + 120 ≤ 7302250) (K18 : AH → Nat → Nat → Nat → Int32 → Option (Int32 × AH)) (hK18 : ∀ (z : AH) (z0 : Nat) (z1 : Nat) (z2 : Nat) (z3 : Int32) , AO l g M_L_law true h0 18 [(0, .ref z0), (1, .ref z1), (2, .ref z2), (3, .int z3)] [] z (k + 7) (n + 100) rSi (K18 z z0 z1 z2 z3)) (h : AH) (x0 : Nat) (x1 : Nat) (x2 : Nat) (x3 : Int32) : AO l g M_L_law true h0 2079 [(0, .ref x0), (1, .ref x1), (2, .ref x2), (3, .int x3)] [] h k n rSi (f_L_law_b2079 N K18 h x0 x1 x2 x3) := by
  unfold f_L_law_b2079
  refine a_aload_n dL_law_2079 rfl 1 rfl ?_
  refine a_aload_n dL_law_2080 rfl 0 rfl ?_
  refine a_iload_n dL_law_2081 rfl 3 rfl ?_
  refine a_iconst (v := 1) dL_law_2082 (by decide) ?_
  refine a_iadd dL_law_2083 ?_
  refine a_iald dL_law_2084 (fun v440 => ?_)
  refine a_aload_n dL_law_2085 rfl 0 rfl ?_
  refine a_iload_n dL_law_2086 rfl 3 rfl ?_
  refine a_iconst (v := 2) dL_law_2087 (by decide) ?_
  refine a_iadd dL_law_2088 ?_
  refine a_iald dL_law_2089 (fun v441 => ?_)
  refine a_cV_Pi (r := x1) (ci := 12) (as := [.int v440, .int v441]) (st := []) dL_law_2090 (c_X11_complaint l g h N x1 v440 v441) rfl km_X11_complaint (hm_X11_complaint) rfl (by decide) rfl (fun _ ee => g_X11_complaint ee) w_methodLink_RainCoverLaw_191 w_instanceMethod_RainCover_complaint__II_I w_selects_RainCover_RainCover_complaint__II_I_RainCover_complaint__II_I ⟨⟨by decide, by decide⟩, ⟨by show k + 0 ≤ 600000; omega, by show n + 0 ≤ 7302250; omega⟩⟩ (Nat.le_of_ble_eq_true rfl) (fun v442 => ?_)
  refine a_aload_n dL_law_2093 rfl 2 rfl ?_
  refine a_aload_n dL_law_2094 rfl 0 rfl ?_
  refine a_iload_n dL_law_2095 rfl 3 rfl ?_
  refine a_iconst (v := 1) dL_law_2096 (by decide) ?_
  refine a_iadd dL_law_2097 ?_
  refine a_iald dL_law_2098 (fun v443 => ?_)
  refine a_aload_n dL_law_2099 rfl 0 rfl ?_
  refine a_iload_n dL_law_2100 rfl 3 rfl ?_
  refine a_iconst (v := 2) dL_law_2101 (by decide) ?_
  refine a_iadd dL_law_2102 ?_
  refine a_iald dL_law_2103 (fun v444 => ?_)
  refine a_cV_Pi (r := x2) (ci := 13) (as := [.int v443, .int v444]) (st := [.int v442]) dL_law_2104 (c_X12_complaint l g h N x2 v443 v444) rfl km_X12_complaint (hm_X12_complaint) rfl (by decide) rfl (fun _ ee => g_X12_complaint ee) w_methodLink_RainCoverLaw_194 w_instanceMethod_RainCoverModel_complaint__II_I w_selects_RainCoverModel_RainCoverModel_complaint__II_I_RainCoverModel_complaint__II_I ⟨⟨by decide, by decide⟩, ⟨by show k + 0 ≤ 600000; omega, by show n + 0 ≤ 7302250; omega⟩⟩ (Nat.le_of_ble_eq_true rfl) (fun v445 => ?_)
  refine a_icmp_eq 2505 dL_law_2107 (by decide) (fun c446 => ?_) (fun c446 => ?_)
  · refine a_widen (k + 7) (n + 100) (by omega) (by omega) ?_
    exact t_L_law_b2505 h0 N k n hk hn K18 hK18 h x0 x1 x2 x3
  · refine a_iconst (v := 0) dL_law_2110 (by decide) ?_
    exact a_zret dL_law_2111 rfl (Or.inl rfl) rfl (by show k ≤ 600000; omega) (by show n ≤ 7302250; omega)
set_option maxRecDepth 100000 in
set_option maxHeartbeats 40000000 in
theorem t_L_law_b2112 (h0 : AH) (N : Nat) (k n : Nat) (hk : k + 10 ≤ 600000) (hn : n + 120 ≤ 7302250) (K18 : AH → Nat → Nat → Nat → Int32 → Option (Int32 × AH)) (hK18 : ∀ (z : AH) (z0 : Nat) (z1 : Nat) (z2 : Nat) (z3 : Int32) , AO l g M_L_law true h0 18 [(0, .ref z0), (1, .ref z1), (2, .ref z2), (3, .int z3)] [] z (k + 7) (n + 100) rSi (K18 z z0 z1 z2 z3)) (h : AH) (x0 : Nat) (x1 : Nat) (x2 : Nat) (x3 : Int32) : AO l g M_L_law true h0 2112 [(0, .ref x0), (1, .ref x1), (2, .ref x2), (3, .int x3)] [] h k n rSi (f_L_law_b2112 N K18 h x0 x1 x2 x3) := by
  unfold f_L_law_b2112
  refine a_aload_n dL_law_2112 rfl 1 rfl ?_
  refine a_aload_n dL_law_2113 rfl 0 rfl ?_
  refine a_iload_n dL_law_2114 rfl 3 rfl ?_
  refine a_iconst (v := 1) dL_law_2115 (by decide) ?_
  refine a_iadd dL_law_2116 ?_
  refine a_iald dL_law_2117 (fun v447 => ?_)
  refine a_cV_Pi (r := x1) (ci := 12) (as := [.int v447]) (st := []) dL_law_2118 (c_X11_debt l g h x1 v447) rfl km_X11_debt (hm_X11_debt) rfl (by decide) rfl (fun _ ee => g_X11_debt ee) w_methodLink_RainCoverLaw_195 w_instanceMethod_RainCover_debt__I_I w_selects_RainCover_RainCover_debt__I_I_RainCover_debt__I_I ⟨⟨by decide, by decide⟩, ⟨by show k + 0 ≤ 600000; omega, by show n + 0 ≤ 7302250; omega⟩⟩ (Nat.le_of_ble_eq_true rfl) (fun v448 => ?_)
  refine a_aload_n dL_law_2121 rfl 2 rfl ?_
  refine a_aload_n dL_law_2122 rfl 0 rfl ?_
  refine a_iload_n dL_law_2123 rfl 3 rfl ?_
  refine a_iconst (v := 1) dL_law_2124 (by decide) ?_
  refine a_iadd dL_law_2125 ?_
  refine a_iald dL_law_2126 (fun v449 => ?_)
  refine a_cV_Pi (r := x2) (ci := 13) (as := [.int v449]) (st := [.int v448]) dL_law_2127 (c_X12_debt l g h x2 v449) rfl km_X12_debt (hm_X12_debt) rfl (by decide) rfl (fun _ ee => g_X12_debt ee) w_methodLink_RainCoverLaw_198 w_instanceMethod_RainCoverModel_debt__I_I w_selects_RainCoverModel_RainCoverModel_debt__I_I_RainCoverModel_debt__I_I ⟨⟨by decide, by decide⟩, ⟨by show k + 0 ≤ 600000; omega, by show n + 0 ≤ 7302250; omega⟩⟩ (Nat.le_of_ble_eq_true rfl) (fun v450 => ?_)
  refine a_icmp_eq 2505 dL_law_2130 (by decide) (fun c451 => ?_) (fun c451 => ?_)
  · refine a_widen (k + 7) (n + 100) (by omega) (by omega) ?_
    exact t_L_law_b2505 h0 N k n hk hn K18 hK18 h x0 x1 x2 x3
  · refine a_iconst (v := 0) dL_law_2133 (by decide) ?_
    exact a_zret dL_law_2134 rfl (Or.inl rfl) rfl (by show k ≤ 600000; omega) (by show n ≤ 7302250; omega)
set_option maxRecDepth 100000 in
set_option maxHeartbeats 40000000 in
theorem t_L_law_b2135 (h0 : AH) (N : Nat) (k n : Nat) (hk : k + 10 ≤ 600000) (hn : n + 120 ≤ 7302250) (K18 : AH → Nat → Nat → Nat → Int32 → Option (Int32 × AH)) (hK18 : ∀ (z : AH) (z0 : Nat) (z1 : Nat) (z2 : Nat) (z3 : Int32) , AO l g M_L_law true h0 18 [(0, .ref z0), (1, .ref z1), (2, .ref z2), (3, .int z3)] [] z (k + 7) (n + 100) rSi (K18 z z0 z1 z2 z3)) (h : AH) (x0 : Nat) (x1 : Nat) (x2 : Nat) (x3 : Int32) : AO l g M_L_law true h0 2135 [(0, .ref x0), (1, .ref x1), (2, .ref x2), (3, .int x3)] [] h k n rSi (f_L_law_b2135 N K18 h x0 x1 x2 x3) := by
  unfold f_L_law_b2135
  refine a_aload_n dL_law_2135 rfl 1 rfl ?_
  refine a_aload_n dL_law_2136 rfl 0 rfl ?_
  refine a_iload_n dL_law_2137 rfl 3 rfl ?_
  refine a_iconst (v := 1) dL_law_2138 (by decide) ?_
  refine a_iadd dL_law_2139 ?_
  refine a_iald dL_law_2140 (fun v452 => ?_)
  refine a_aload_n dL_law_2141 rfl 0 rfl ?_
  refine a_iload_n dL_law_2142 rfl 3 rfl ?_
  refine a_iconst (v := 2) dL_law_2143 (by decide) ?_
  refine a_iadd dL_law_2144 ?_
  refine a_iald dL_law_2145 (fun v453 => ?_)
  refine a_cV_Si (r := x1) (ci := 12) (as := [.int v452, .int v453]) (st := []) dL_law_2146 (c_X11_group l g h x1 v452 v453) rfl km_X11_group (hm_X11_group) rfl (by decide) rfl (fun _ ee => g_X11_group ee) w_methodLink_RainCoverLaw_199 w_instanceMethod_RainCover_group__II_I w_selects_RainCover_RainCover_group__II_I_RainCover_group__II_I ⟨⟨by decide, by decide⟩, ⟨by show k + 0 ≤ 600000; omega, by show n + 0 ≤ 7302250; omega⟩⟩ (Nat.le_of_ble_eq_true rfl) (fun q454 => ?_)
  refine a_aload_n dL_law_2149 rfl 2 rfl ?_
  refine a_aload_n dL_law_2150 rfl 0 rfl ?_
  refine a_iload_n dL_law_2151 rfl 3 rfl ?_
  refine a_iconst (v := 1) dL_law_2152 (by decide) ?_
  refine a_iadd dL_law_2153 ?_
  refine a_iald dL_law_2154 (fun v455 => ?_)
  refine a_aload_n dL_law_2155 rfl 0 rfl ?_
  refine a_iload_n dL_law_2156 rfl 3 rfl ?_
  refine a_iconst (v := 2) dL_law_2157 (by decide) ?_
  refine a_iadd dL_law_2158 ?_
  refine a_iald dL_law_2159 (fun v456 => ?_)
  refine a_cV_Si (r := x2) (ci := 13) (as := [.int v455, .int v456]) (st := [.int q454.1]) dL_law_2160 (c_X12_group l g q454.2 x2 v455 v456) rfl km_X12_group (hm_X12_group) rfl (by decide) rfl (fun _ ee => g_X12_group ee) w_methodLink_RainCoverLaw_202 w_instanceMethod_RainCoverModel_group__II_I w_selects_RainCoverModel_RainCoverModel_group__II_I_RainCoverModel_group__II_I ⟨⟨by decide, by decide⟩, ⟨by show k + 0 ≤ 600000; omega, by show n + 0 ≤ 7302250; omega⟩⟩ (Nat.le_of_ble_eq_true rfl) (fun q457 => ?_)
  refine a_icmp_eq 2505 dL_law_2163 (by decide) (fun c458 => ?_) (fun c458 => ?_)
  · refine a_widen (k + 7) (n + 100) (by omega) (by omega) ?_
    exact t_L_law_b2505 h0 N k n hk hn K18 hK18 q457.2 x0 x1 x2 x3
  · refine a_iconst (v := 0) dL_law_2166 (by decide) ?_
    exact a_zret dL_law_2167 rfl (Or.inl rfl) rfl (by show k ≤ 600000; omega) (by show n ≤ 7302250; omega)
set_option maxRecDepth 100000 in
set_option maxHeartbeats 40000000 in
theorem t_L_law_b2168 (h0 : AH) (N : Nat) (k n : Nat) (hk : k + 10 ≤ 600000) (hn : n + 120 ≤ 7302250) (K18 : AH → Nat → Nat → Nat → Int32 → Option (Int32 × AH)) (hK18 : ∀ (z : AH) (z0 : Nat) (z1 : Nat) (z2 : Nat) (z3 : Int32) , AO l g M_L_law true h0 18 [(0, .ref z0), (1, .ref z1), (2, .ref z2), (3, .int z3)] [] z (k + 7) (n + 100) rSi (K18 z z0 z1 z2 z3)) (h : AH) (x0 : Nat) (x1 : Nat) (x2 : Nat) (x3 : Int32) : AO l g M_L_law true h0 2168 [(0, .ref x0), (1, .ref x1), (2, .ref x2), (3, .int x3)] [] h k n rSi (f_L_law_b2168 N K18 h x0 x1 x2 x3) := by
  unfold f_L_law_b2168
  refine a_aload_n dL_law_2168 rfl 1 rfl ?_
  refine a_aload_n dL_law_2169 rfl 0 rfl ?_
  refine a_iload_n dL_law_2170 rfl 3 rfl ?_
  refine a_iconst (v := 1) dL_law_2171 (by decide) ?_
  refine a_iadd dL_law_2172 ?_
  refine a_iald dL_law_2173 (fun v459 => ?_)
  refine a_aload_n dL_law_2174 rfl 0 rfl ?_
  refine a_iload_n dL_law_2175 rfl 3 rfl ?_
  refine a_iconst (v := 2) dL_law_2176 (by decide) ?_
  refine a_iadd dL_law_2177 ?_
  refine a_iald dL_law_2178 (fun v460 => ?_)
  refine a_cV_Si (r := x1) (ci := 12) (as := [.int v459, .int v460]) (st := []) dL_law_2179 (c_X11_vote l g h x1 v459 v460) rfl km_X11_vote (hm_X11_vote) rfl (by decide) rfl (fun _ ee => g_X11_vote ee) w_methodLink_RainCoverLaw_203 w_instanceMethod_RainCover_vote__II_I w_selects_RainCover_RainCover_vote__II_I_RainCover_vote__II_I ⟨⟨by decide, by decide⟩, ⟨by show k + 0 ≤ 600000; omega, by show n + 0 ≤ 7302250; omega⟩⟩ (Nat.le_of_ble_eq_true rfl) (fun q461 => ?_)
  refine a_aload_n dL_law_2182 rfl 2 rfl ?_
  refine a_aload_n dL_law_2183 rfl 0 rfl ?_
  refine a_iload_n dL_law_2184 rfl 3 rfl ?_
  refine a_iconst (v := 1) dL_law_2185 (by decide) ?_
  refine a_iadd dL_law_2186 ?_
  refine a_iald dL_law_2187 (fun v462 => ?_)
  refine a_aload_n dL_law_2188 rfl 0 rfl ?_
  refine a_iload_n dL_law_2189 rfl 3 rfl ?_
  refine a_iconst (v := 2) dL_law_2190 (by decide) ?_
  refine a_iadd dL_law_2191 ?_
  refine a_iald dL_law_2192 (fun v463 => ?_)
  refine a_cV_Si (r := x2) (ci := 13) (as := [.int v462, .int v463]) (st := [.int q461.1]) dL_law_2193 (c_X12_vote l g q461.2 x2 v462 v463) rfl km_X12_vote (hm_X12_vote) rfl (by decide) rfl (fun _ ee => g_X12_vote ee) w_methodLink_RainCoverLaw_206 w_instanceMethod_RainCoverModel_vote__II_I w_selects_RainCoverModel_RainCoverModel_vote__II_I_RainCoverModel_vote__II_I ⟨⟨by decide, by decide⟩, ⟨by show k + 0 ≤ 600000; omega, by show n + 0 ≤ 7302250; omega⟩⟩ (Nat.le_of_ble_eq_true rfl) (fun q464 => ?_)
  refine a_icmp_eq 2505 dL_law_2196 (by decide) (fun c465 => ?_) (fun c465 => ?_)
  · refine a_widen (k + 7) (n + 100) (by omega) (by omega) ?_
    exact t_L_law_b2505 h0 N k n hk hn K18 hK18 q464.2 x0 x1 x2 x3
  · refine a_iconst (v := 0) dL_law_2199 (by decide) ?_
    exact a_zret dL_law_2200 rfl (Or.inl rfl) rfl (by show k ≤ 600000; omega) (by show n ≤ 7302250; omega)
set_option maxRecDepth 100000 in
set_option maxHeartbeats 40000000 in
theorem t_L_law_b2201 (h0 : AH) (N : Nat) (k n : Nat) (hk : k + 10 ≤ 600000) (hn : n + 120 ≤ 7302250) (K18 : AH → Nat → Nat → Nat → Int32 → Option (Int32 × AH)) (hK18 : ∀ (z : AH) (z0 : Nat) (z1 : Nat) (z2 : Nat) (z3 : Int32) , AO l g M_L_law true h0 18 [(0, .ref z0), (1, .ref z1), (2, .ref z2), (3, .int z3)] [] z (k + 7) (n + 100) rSi (K18 z z0 z1 z2 z3)) (h : AH) (x0 : Nat) (x1 : Nat) (x2 : Nat) (x3 : Int32) : AO l g M_L_law true h0 2201 [(0, .ref x0), (1, .ref x1), (2, .ref x2), (3, .int x3)] [] h k n rSi (f_L_law_b2201 N K18 h x0 x1 x2 x3) := by
  unfold f_L_law_b2201
  refine a_aload_n dL_law_2201 rfl 1 rfl ?_
  refine a_aload_n dL_law_2202 rfl 0 rfl ?_
  refine a_iload_n dL_law_2203 rfl 3 rfl ?_
  refine a_iconst (v := 1) dL_law_2204 (by decide) ?_
  refine a_iadd dL_law_2205 ?_
  refine a_iald dL_law_2206 (fun v466 => ?_)
  refine a_aload_n dL_law_2207 rfl 0 rfl ?_
  refine a_iload_n dL_law_2208 rfl 3 rfl ?_
  refine a_iconst (v := 2) dL_law_2209 (by decide) ?_
  refine a_iadd dL_law_2210 ?_
  refine a_iald dL_law_2211 (fun v467 => ?_)
  refine a_cV_Si (r := x1) (ci := 12) (as := [.int v466, .int v467]) (st := []) dL_law_2212 (c_X11_share l g h N x1 v466 v467) rfl km_X11_share (hm_X11_share) rfl (by decide) rfl (fun _ ee => g_X11_share ee) w_methodLink_RainCoverLaw_207 w_instanceMethod_RainCover_share__II_I w_selects_RainCover_RainCover_share__II_I_RainCover_share__II_I ⟨⟨by decide, by decide⟩, ⟨by show k + 0 ≤ 600000; omega, by show n + 0 ≤ 7302250; omega⟩⟩ (Nat.le_of_ble_eq_true rfl) (fun q468 => ?_)
  refine a_aload_n dL_law_2215 rfl 2 rfl ?_
  refine a_aload_n dL_law_2216 rfl 0 rfl ?_
  refine a_iload_n dL_law_2217 rfl 3 rfl ?_
  refine a_iconst (v := 1) dL_law_2218 (by decide) ?_
  refine a_iadd dL_law_2219 ?_
  refine a_iald dL_law_2220 (fun v469 => ?_)
  refine a_aload_n dL_law_2221 rfl 0 rfl ?_
  refine a_iload_n dL_law_2222 rfl 3 rfl ?_
  refine a_iconst (v := 2) dL_law_2223 (by decide) ?_
  refine a_iadd dL_law_2224 ?_
  refine a_iald dL_law_2225 (fun v470 => ?_)
  refine a_cV_Pi (r := x2) (ci := 13) (as := [.int v469, .int v470]) (st := [.int q468.1]) dL_law_2226 (c_X12_share l g q468.2 N x2 v469 v470) rfl km_X12_share (hm_X12_share) rfl (by decide) rfl (fun _ ee => g_X12_share ee) w_methodLink_RainCoverLaw_210 w_instanceMethod_RainCoverModel_share__II_I w_selects_RainCoverModel_RainCoverModel_share__II_I_RainCoverModel_share__II_I ⟨⟨by decide, by decide⟩, ⟨by show k + 0 ≤ 600000; omega, by show n + 0 ≤ 7302250; omega⟩⟩ (Nat.le_of_ble_eq_true rfl) (fun v471 => ?_)
  refine a_icmp_eq 2505 dL_law_2229 (by decide) (fun c472 => ?_) (fun c472 => ?_)
  · refine a_widen (k + 7) (n + 100) (by omega) (by omega) ?_
    exact t_L_law_b2505 h0 N k n hk hn K18 hK18 q468.2 x0 x1 x2 x3
  · refine a_iconst (v := 0) dL_law_2232 (by decide) ?_
    exact a_zret dL_law_2233 rfl (Or.inl rfl) rfl (by show k ≤ 600000; omega) (by show n ≤ 7302250; omega)
set_option maxRecDepth 100000 in
set_option maxHeartbeats 40000000 in
theorem t_L_law_b2234 (h0 : AH) (N : Nat) (k n : Nat) (hk : k + 10 ≤ 600000) (hn : n + 120 ≤ 7302250) (K18 : AH → Nat → Nat → Nat → Int32 → Option (Int32 × AH)) (hK18 : ∀ (z : AH) (z0 : Nat) (z1 : Nat) (z2 : Nat) (z3 : Int32) , AO l g M_L_law true h0 18 [(0, .ref z0), (1, .ref z1), (2, .ref z2), (3, .int z3)] [] z (k + 7) (n + 100) rSi (K18 z z0 z1 z2 z3)) (h : AH) (x0 : Nat) (x1 : Nat) (x2 : Nat) (x3 : Int32) : AO l g M_L_law true h0 2234 [(0, .ref x0), (1, .ref x1), (2, .ref x2), (3, .int x3)] [] h k n rSi (f_L_law_b2234 N K18 h x0 x1 x2 x3) := by
  unfold f_L_law_b2234
  refine a_aload_n dL_law_2234 rfl 1 rfl ?_
  refine a_aload_n dL_law_2235 rfl 0 rfl ?_
  refine a_iload_n dL_law_2236 rfl 3 rfl ?_
  refine a_iconst (v := 1) dL_law_2237 (by decide) ?_
  refine a_iadd dL_law_2238 ?_
  refine a_iald dL_law_2239 (fun v473 => ?_)
  refine a_aload_n dL_law_2240 rfl 0 rfl ?_
  refine a_iload_n dL_law_2241 rfl 3 rfl ?_
  refine a_iconst (v := 2) dL_law_2242 (by decide) ?_
  refine a_iadd dL_law_2243 ?_
  refine a_iald dL_law_2244 (fun v474 => ?_)
  refine a_aload_n dL_law_2245 rfl 0 rfl ?_
  refine a_iload_n dL_law_2246 rfl 3 rfl ?_
  refine a_iconst (v := 3) dL_law_2247 (by decide) ?_
  refine a_iadd dL_law_2248 ?_
  refine a_iald dL_law_2249 (fun v475 => ?_)
  refine a_cV_Si (r := x1) (ci := 12) (as := [.int v473, .int v474, .int v475]) (st := []) dL_law_2250 (c_X11_act l g h x1 v473 v474 v475) rfl km_X11_act (hm_X11_act) rfl (by decide) rfl (fun _ ee => g_X11_act ee) w_methodLink_RainCoverLaw_211 w_instanceMethod_RainCover_act__III_I w_selects_RainCover_RainCover_act__III_I_RainCover_act__III_I ⟨⟨by decide, by decide⟩, ⟨by show k + 0 ≤ 600000; omega, by show n + 0 ≤ 7302250; omega⟩⟩ (Nat.le_of_ble_eq_true rfl) (fun q476 => ?_)
  refine a_aload_n dL_law_2253 rfl 2 rfl ?_
  refine a_aload_n dL_law_2254 rfl 0 rfl ?_
  refine a_iload_n dL_law_2255 rfl 3 rfl ?_
  refine a_iconst (v := 1) dL_law_2256 (by decide) ?_
  refine a_iadd dL_law_2257 ?_
  refine a_iald dL_law_2258 (fun v477 => ?_)
  refine a_aload_n dL_law_2259 rfl 0 rfl ?_
  refine a_iload_n dL_law_2260 rfl 3 rfl ?_
  refine a_iconst (v := 2) dL_law_2261 (by decide) ?_
  refine a_iadd dL_law_2262 ?_
  refine a_iald dL_law_2263 (fun v478 => ?_)
  refine a_aload_n dL_law_2264 rfl 0 rfl ?_
  refine a_iload_n dL_law_2265 rfl 3 rfl ?_
  refine a_iconst (v := 3) dL_law_2266 (by decide) ?_
  refine a_iadd dL_law_2267 ?_
  refine a_iald dL_law_2268 (fun v479 => ?_)
  refine a_cV_Si (r := x2) (ci := 13) (as := [.int v477, .int v478, .int v479]) (st := [.int q476.1]) dL_law_2269 (c_X12_act l g q476.2 x2 v477 v478 v479) rfl km_X12_act (hm_X12_act) rfl (by decide) rfl (fun _ ee => g_X12_act ee) w_methodLink_RainCoverLaw_214 w_instanceMethod_RainCoverModel_act__III_I w_selects_RainCoverModel_RainCoverModel_act__III_I_RainCoverModel_act__III_I ⟨⟨by decide, by decide⟩, ⟨by show k + 0 ≤ 600000; omega, by show n + 0 ≤ 7302250; omega⟩⟩ (Nat.le_of_ble_eq_true rfl) (fun q480 => ?_)
  refine a_icmp_eq 2505 dL_law_2272 (by decide) (fun c481 => ?_) (fun c481 => ?_)
  · refine a_widen (k + 7) (n + 100) (by omega) (by omega) ?_
    exact t_L_law_b2505 h0 N k n hk hn K18 hK18 q480.2 x0 x1 x2 x3
  · refine a_iconst (v := 0) dL_law_2275 (by decide) ?_
    exact a_zret dL_law_2276 rfl (Or.inl rfl) rfl (by show k ≤ 600000; omega) (by show n ≤ 7302250; omega)
set_option maxRecDepth 100000 in
set_option maxHeartbeats 40000000 in
theorem t_L_law_b2277 (h0 : AH) (N : Nat) (k n : Nat) (hk : k + 10 ≤ 600000) (hn : n + 120 ≤ 7302250) (K18 : AH → Nat → Nat → Nat → Int32 → Option (Int32 × AH)) (hK18 : ∀ (z : AH) (z0 : Nat) (z1 : Nat) (z2 : Nat) (z3 : Int32) , AO l g M_L_law true h0 18 [(0, .ref z0), (1, .ref z1), (2, .ref z2), (3, .int z3)] [] z (k + 7) (n + 100) rSi (K18 z z0 z1 z2 z3)) (h : AH) (x0 : Nat) (x1 : Nat) (x2 : Nat) (x3 : Int32) : AO l g M_L_law true h0 2277 [(0, .ref x0), (1, .ref x1), (2, .ref x2), (3, .int x3)] [] h k n rSi (f_L_law_b2277 N K18 h x0 x1 x2 x3) := by
  unfold f_L_law_b2277
  refine a_aload_n dL_law_2277 rfl 1 rfl ?_
  refine a_aload_n dL_law_2278 rfl 0 rfl ?_
  refine a_iload_n dL_law_2279 rfl 3 rfl ?_
  refine a_iconst (v := 1) dL_law_2280 (by decide) ?_
  refine a_iadd dL_law_2281 ?_
  refine a_iald dL_law_2282 (fun v482 => ?_)
  refine a_cV_Pi (r := x1) (ci := 12) (as := [.int v482]) (st := []) dL_law_2283 (c_X11_trace l g h x1 v482) rfl km_X11_trace (hm_X11_trace) rfl (by decide) rfl (fun _ ee => g_X11_trace ee) w_methodLink_RainCoverLaw_215 w_instanceMethod_RainCover_trace__I_I w_selects_RainCover_RainCover_trace__I_I_RainCover_trace__I_I ⟨⟨by decide, by decide⟩, ⟨by show k + 0 ≤ 600000; omega, by show n + 0 ≤ 7302250; omega⟩⟩ (Nat.le_of_ble_eq_true rfl) (fun v483 => ?_)
  refine a_aload_n dL_law_2286 rfl 2 rfl ?_
  refine a_aload_n dL_law_2287 rfl 0 rfl ?_
  refine a_iload_n dL_law_2288 rfl 3 rfl ?_
  refine a_iconst (v := 1) dL_law_2289 (by decide) ?_
  refine a_iadd dL_law_2290 ?_
  refine a_iald dL_law_2291 (fun v484 => ?_)
  refine a_cV_Pi (r := x2) (ci := 13) (as := [.int v484]) (st := [.int v483]) dL_law_2292 (c_X12_trace l g h x2 v484) rfl km_X12_trace (hm_X12_trace) rfl (by decide) rfl (fun _ ee => g_X12_trace ee) w_methodLink_RainCoverLaw_218 w_instanceMethod_RainCoverModel_trace__I_I w_selects_RainCoverModel_RainCoverModel_trace__I_I_RainCoverModel_trace__I_I ⟨⟨by decide, by decide⟩, ⟨by show k + 0 ≤ 600000; omega, by show n + 0 ≤ 7302250; omega⟩⟩ (Nat.le_of_ble_eq_true rfl) (fun v485 => ?_)
  refine a_icmp_eq 2505 dL_law_2295 (by decide) (fun c486 => ?_) (fun c486 => ?_)
  · refine a_widen (k + 7) (n + 100) (by omega) (by omega) ?_
    exact t_L_law_b2505 h0 N k n hk hn K18 hK18 h x0 x1 x2 x3
  · refine a_iconst (v := 0) dL_law_2298 (by decide) ?_
    exact a_zret dL_law_2299 rfl (Or.inl rfl) rfl (by show k ≤ 600000; omega) (by show n ≤ 7302250; omega)
set_option maxRecDepth 100000 in
set_option maxHeartbeats 40000000 in
theorem t_L_law_b2300 (h0 : AH) (N : Nat) (k n : Nat) (hk : k + 10 ≤ 600000) (hn : n + 120 ≤ 7302250) (K18 : AH → Nat → Nat → Nat → Int32 → Option (Int32 × AH)) (hK18 : ∀ (z : AH) (z0 : Nat) (z1 : Nat) (z2 : Nat) (z3 : Int32) , AO l g M_L_law true h0 18 [(0, .ref z0), (1, .ref z1), (2, .ref z2), (3, .int z3)] [] z (k + 7) (n + 100) rSi (K18 z z0 z1 z2 z3)) (h : AH) (x0 : Nat) (x1 : Nat) (x2 : Nat) (x3 : Int32) : AO l g M_L_law true h0 2300 [(0, .ref x0), (1, .ref x1), (2, .ref x2), (3, .int x3)] [] h k n rSi (f_L_law_b2300 N K18 h x0 x1 x2 x3) := by
  unfold f_L_law_b2300
  refine a_aload_n dL_law_2300 rfl 1 rfl ?_
  refine a_aload_n dL_law_2301 rfl 0 rfl ?_
  refine a_iload_n dL_law_2302 rfl 3 rfl ?_
  refine a_iconst (v := 1) dL_law_2303 (by decide) ?_
  refine a_iadd dL_law_2304 ?_
  refine a_iald dL_law_2305 (fun v487 => ?_)
  refine a_aload_n dL_law_2306 rfl 0 rfl ?_
  refine a_iload_n dL_law_2307 rfl 3 rfl ?_
  refine a_iconst (v := 2) dL_law_2308 (by decide) ?_
  refine a_iadd dL_law_2309 ?_
  refine a_iald dL_law_2310 (fun v488 => ?_)
  refine a_cV_Pi (r := x1) (ci := 12) (as := [.int v487, .int v488]) (st := []) dL_law_2311 (c_X11_taken l g h x1 v487 v488) rfl km_X11_taken (hm_X11_taken) rfl (by decide) rfl (fun _ ee => g_X11_taken ee) w_methodLink_RainCoverLaw_219 w_instanceMethod_RainCover_taken__II_I w_selects_RainCover_RainCover_taken__II_I_RainCover_taken__II_I ⟨⟨by decide, by decide⟩, ⟨by show k + 0 ≤ 600000; omega, by show n + 0 ≤ 7302250; omega⟩⟩ (Nat.le_of_ble_eq_true rfl) (fun v489 => ?_)
  refine a_aload_n dL_law_2314 rfl 2 rfl ?_
  refine a_aload_n dL_law_2315 rfl 0 rfl ?_
  refine a_iload_n dL_law_2316 rfl 3 rfl ?_
  refine a_iconst (v := 1) dL_law_2317 (by decide) ?_
  refine a_iadd dL_law_2318 ?_
  refine a_iald dL_law_2319 (fun v490 => ?_)
  refine a_aload_n dL_law_2320 rfl 0 rfl ?_
  refine a_iload_n dL_law_2321 rfl 3 rfl ?_
  refine a_iconst (v := 2) dL_law_2322 (by decide) ?_
  refine a_iadd dL_law_2323 ?_
  refine a_iald dL_law_2324 (fun v491 => ?_)
  refine a_cV_Pi (r := x2) (ci := 13) (as := [.int v490, .int v491]) (st := [.int v489]) dL_law_2325 (c_X12_taken l g h x2 v490 v491) rfl km_X12_taken (hm_X12_taken) rfl (by decide) rfl (fun _ ee => g_X12_taken ee) w_methodLink_RainCoverLaw_222 w_instanceMethod_RainCoverModel_taken__II_I w_selects_RainCoverModel_RainCoverModel_taken__II_I_RainCoverModel_taken__II_I ⟨⟨by decide, by decide⟩, ⟨by show k + 0 ≤ 600000; omega, by show n + 0 ≤ 7302250; omega⟩⟩ (Nat.le_of_ble_eq_true rfl) (fun v492 => ?_)
  refine a_icmp_eq 2505 dL_law_2328 (by decide) (fun c493 => ?_) (fun c493 => ?_)
  · refine a_widen (k + 7) (n + 100) (by omega) (by omega) ?_
    exact t_L_law_b2505 h0 N k n hk hn K18 hK18 h x0 x1 x2 x3
  · refine a_iconst (v := 0) dL_law_2331 (by decide) ?_
    exact a_zret dL_law_2332 rfl (Or.inl rfl) rfl (by show k ≤ 600000; omega) (by show n ≤ 7302250; omega)
set_option maxRecDepth 100000 in
set_option maxHeartbeats 40000000 in
theorem t_L_law_b2333 (h0 : AH) (N : Nat) (k n : Nat) (hk : k + 10 ≤ 600000) (hn : n + 120 ≤ 7302250) (K18 : AH → Nat → Nat → Nat → Int32 → Option (Int32 × AH)) (hK18 : ∀ (z : AH) (z0 : Nat) (z1 : Nat) (z2 : Nat) (z3 : Int32) , AO l g M_L_law true h0 18 [(0, .ref z0), (1, .ref z1), (2, .ref z2), (3, .int z3)] [] z (k + 7) (n + 100) rSi (K18 z z0 z1 z2 z3)) (h : AH) (x0 : Nat) (x1 : Nat) (x2 : Nat) (x3 : Int32) : AO l g M_L_law true h0 2333 [(0, .ref x0), (1, .ref x1), (2, .ref x2), (3, .int x3)] [] h k n rSi (f_L_law_b2333 N K18 h x0 x1 x2 x3) := by
  unfold f_L_law_b2333
  refine a_aload_n dL_law_2333 rfl 1 rfl ?_
  refine a_aload_n dL_law_2334 rfl 0 rfl ?_
  refine a_iload_n dL_law_2335 rfl 3 rfl ?_
  refine a_iconst (v := 1) dL_law_2336 (by decide) ?_
  refine a_iadd dL_law_2337 ?_
  refine a_iald dL_law_2338 (fun v494 => ?_)
  refine a_cV_Pi (r := x1) (ci := 12) (as := [.int v494]) (st := []) dL_law_2339 (c_X11_count l g h x1 v494) rfl km_X11_count (hm_X11_count) rfl (by decide) rfl (fun _ ee => g_X11_count ee) w_methodLink_RainCoverLaw_223 w_instanceMethod_RainCover_count__I_I w_selects_RainCover_RainCover_count__I_I_RainCover_count__I_I ⟨⟨by decide, by decide⟩, ⟨by show k + 0 ≤ 600000; omega, by show n + 0 ≤ 7302250; omega⟩⟩ (Nat.le_of_ble_eq_true rfl) (fun v495 => ?_)
  refine a_aload_n dL_law_2342 rfl 2 rfl ?_
  refine a_aload_n dL_law_2343 rfl 0 rfl ?_
  refine a_iload_n dL_law_2344 rfl 3 rfl ?_
  refine a_iconst (v := 1) dL_law_2345 (by decide) ?_
  refine a_iadd dL_law_2346 ?_
  refine a_iald dL_law_2347 (fun v496 => ?_)
  refine a_cV_Pi (r := x2) (ci := 13) (as := [.int v496]) (st := [.int v495]) dL_law_2348 (c_X12_count l g h x2 v496) rfl km_X12_count (hm_X12_count) rfl (by decide) rfl (fun _ ee => g_X12_count ee) w_methodLink_RainCoverLaw_226 w_instanceMethod_RainCoverModel_count__I_I w_selects_RainCoverModel_RainCoverModel_count__I_I_RainCoverModel_count__I_I ⟨⟨by decide, by decide⟩, ⟨by show k + 0 ≤ 600000; omega, by show n + 0 ≤ 7302250; omega⟩⟩ (Nat.le_of_ble_eq_true rfl) (fun v497 => ?_)
  refine a_icmp_eq 2505 dL_law_2351 (by decide) (fun c498 => ?_) (fun c498 => ?_)
  · refine a_widen (k + 7) (n + 100) (by omega) (by omega) ?_
    exact t_L_law_b2505 h0 N k n hk hn K18 hK18 h x0 x1 x2 x3
  · refine a_iconst (v := 0) dL_law_2354 (by decide) ?_
    exact a_zret dL_law_2355 rfl (Or.inl rfl) rfl (by show k ≤ 600000; omega) (by show n ≤ 7302250; omega)
set_option maxRecDepth 100000 in
set_option maxHeartbeats 40000000 in
theorem t_L_law_b2356 (h0 : AH) (N : Nat) (k n : Nat) (hk : k + 10 ≤ 600000) (hn : n + 120 ≤ 7302250) (K18 : AH → Nat → Nat → Nat → Int32 → Option (Int32 × AH)) (hK18 : ∀ (z : AH) (z0 : Nat) (z1 : Nat) (z2 : Nat) (z3 : Int32) , AO l g M_L_law true h0 18 [(0, .ref z0), (1, .ref z1), (2, .ref z2), (3, .int z3)] [] z (k + 7) (n + 100) rSi (K18 z z0 z1 z2 z3)) (h : AH) (x0 : Nat) (x1 : Nat) (x2 : Nat) (x3 : Int32) : AO l g M_L_law true h0 2356 [(0, .ref x0), (1, .ref x1), (2, .ref x2), (3, .int x3)] [] h k n rSi (f_L_law_b2356 N K18 h x0 x1 x2 x3) := by
  unfold f_L_law_b2356
  refine a_aload_n dL_law_2356 rfl 1 rfl ?_
  refine a_aload_n dL_law_2357 rfl 0 rfl ?_
  refine a_iload_n dL_law_2358 rfl 3 rfl ?_
  refine a_iconst (v := 1) dL_law_2359 (by decide) ?_
  refine a_iadd dL_law_2360 ?_
  refine a_iald dL_law_2361 (fun v499 => ?_)
  refine a_aload_n dL_law_2362 rfl 0 rfl ?_
  refine a_iload_n dL_law_2363 rfl 3 rfl ?_
  refine a_iconst (v := 2) dL_law_2364 (by decide) ?_
  refine a_iadd dL_law_2365 ?_
  refine a_iald dL_law_2366 (fun v500 => ?_)
  refine a_aload_n dL_law_2367 rfl 0 rfl ?_
  refine a_iload_n dL_law_2368 rfl 3 rfl ?_
  refine a_iconst (v := 3) dL_law_2369 (by decide) ?_
  refine a_iadd dL_law_2370 ?_
  refine a_iald dL_law_2371 (fun v501 => ?_)
  refine a_cV_Si (r := x1) (ci := 12) (as := [.int v499, .int v500, .int v501]) (st := []) dL_law_2372 (c_X11_sheet l g h N x1 v499 v500 v501) rfl km_X11_sheet (hm_X11_sheet) rfl (by decide) rfl (fun _ ee => g_X11_sheet ee) w_methodLink_RainCoverLaw_227 w_instanceMethod_RainCover_sheet__III_I w_selects_RainCover_RainCover_sheet__III_I_RainCover_sheet__III_I ⟨⟨by decide, by decide⟩, ⟨by show k + 0 ≤ 600000; omega, by show n + 0 ≤ 7302250; omega⟩⟩ (Nat.le_of_ble_eq_true rfl) (fun q502 => ?_)
  refine a_aload_n dL_law_2375 rfl 2 rfl ?_
  refine a_aload_n dL_law_2376 rfl 0 rfl ?_
  refine a_iload_n dL_law_2377 rfl 3 rfl ?_
  refine a_iconst (v := 1) dL_law_2378 (by decide) ?_
  refine a_iadd dL_law_2379 ?_
  refine a_iald dL_law_2380 (fun v503 => ?_)
  refine a_aload_n dL_law_2381 rfl 0 rfl ?_
  refine a_iload_n dL_law_2382 rfl 3 rfl ?_
  refine a_iconst (v := 2) dL_law_2383 (by decide) ?_
  refine a_iadd dL_law_2384 ?_
  refine a_iald dL_law_2385 (fun v504 => ?_)
  refine a_aload_n dL_law_2386 rfl 0 rfl ?_
  refine a_iload_n dL_law_2387 rfl 3 rfl ?_
  refine a_iconst (v := 3) dL_law_2388 (by decide) ?_
  refine a_iadd dL_law_2389 ?_
  refine a_iald dL_law_2390 (fun v505 => ?_)
  refine a_cV_Si (r := x2) (ci := 13) (as := [.int v503, .int v504, .int v505]) (st := [.int q502.1]) dL_law_2391 (c_X12_sheet l g q502.2 N x2 v503 v504 v505) rfl km_X12_sheet (hm_X12_sheet) rfl (by decide) rfl (fun _ ee => g_X12_sheet ee) w_methodLink_RainCoverLaw_230 w_instanceMethod_RainCoverModel_sheet__III_I w_selects_RainCoverModel_RainCoverModel_sheet__III_I_RainCoverModel_sheet__III_I ⟨⟨by decide, by decide⟩, ⟨by show k + 0 ≤ 600000; omega, by show n + 0 ≤ 7302250; omega⟩⟩ (Nat.le_of_ble_eq_true rfl) (fun q506 => ?_)
  refine a_icmp_eq 2505 dL_law_2394 (by decide) (fun c507 => ?_) (fun c507 => ?_)
  · refine a_widen (k + 7) (n + 100) (by omega) (by omega) ?_
    exact t_L_law_b2505 h0 N k n hk hn K18 hK18 q506.2 x0 x1 x2 x3
  · refine a_iconst (v := 0) dL_law_2397 (by decide) ?_
    exact a_zret dL_law_2398 rfl (Or.inl rfl) rfl (by show k ≤ 600000; omega) (by show n ≤ 7302250; omega)
set_option maxRecDepth 100000 in
set_option maxHeartbeats 40000000 in
theorem t_L_law_b2399 (h0 : AH) (N : Nat) (k n : Nat) (hk : k + 10 ≤ 600000) (hn : n + 120 ≤ 7302250) (K18 : AH → Nat → Nat → Nat → Int32 → Option (Int32 × AH)) (hK18 : ∀ (z : AH) (z0 : Nat) (z1 : Nat) (z2 : Nat) (z3 : Int32) , AO l g M_L_law true h0 18 [(0, .ref z0), (1, .ref z1), (2, .ref z2), (3, .int z3)] [] z (k + 7) (n + 100) rSi (K18 z z0 z1 z2 z3)) (h : AH) (x0 : Nat) (x1 : Nat) (x2 : Nat) (x3 : Int32) : AO l g M_L_law true h0 2399 [(0, .ref x0), (1, .ref x1), (2, .ref x2), (3, .int x3)] [] h k n rSi (f_L_law_b2399 N K18 h x0 x1 x2 x3) := by
  unfold f_L_law_b2399
  refine a_aload_n dL_law_2399 rfl 1 rfl ?_
  refine a_aload_n dL_law_2400 rfl 0 rfl ?_
  refine a_iload_n dL_law_2401 rfl 3 rfl ?_
  refine a_iconst (v := 1) dL_law_2402 (by decide) ?_
  refine a_iadd dL_law_2403 ?_
  refine a_iald dL_law_2404 (fun v508 => ?_)
  refine a_aload_n dL_law_2405 rfl 0 rfl ?_
  refine a_iload_n dL_law_2406 rfl 3 rfl ?_
  refine a_iconst (v := 2) dL_law_2407 (by decide) ?_
  refine a_iadd dL_law_2408 ?_
  refine a_iald dL_law_2409 (fun v509 => ?_)
  refine a_aload_n dL_law_2410 rfl 0 rfl ?_
  refine a_iload_n dL_law_2411 rfl 3 rfl ?_
  refine a_iconst (v := 3) dL_law_2412 (by decide) ?_
  refine a_iadd dL_law_2413 ?_
  refine a_iald dL_law_2414 (fun v510 => ?_)
  refine a_cV_Si (r := x1) (ci := 12) (as := [.int v508, .int v509, .int v510]) (st := []) dL_law_2415 (c_X11_cell l g h x1 v508 v509 v510) rfl km_X11_cell (hm_X11_cell) rfl (by decide) rfl (fun _ ee => g_X11_cell ee) w_methodLink_RainCoverLaw_231 w_instanceMethod_RainCover_cell__III_I w_selects_RainCover_RainCover_cell__III_I_RainCover_cell__III_I ⟨⟨by decide, by decide⟩, ⟨by show k + 0 ≤ 600000; omega, by show n + 0 ≤ 7302250; omega⟩⟩ (Nat.le_of_ble_eq_true rfl) (fun q511 => ?_)
  refine a_aload_n dL_law_2418 rfl 2 rfl ?_
  refine a_aload_n dL_law_2419 rfl 0 rfl ?_
  refine a_iload_n dL_law_2420 rfl 3 rfl ?_
  refine a_iconst (v := 1) dL_law_2421 (by decide) ?_
  refine a_iadd dL_law_2422 ?_
  refine a_iald dL_law_2423 (fun v512 => ?_)
  refine a_aload_n dL_law_2424 rfl 0 rfl ?_
  refine a_iload_n dL_law_2425 rfl 3 rfl ?_
  refine a_iconst (v := 2) dL_law_2426 (by decide) ?_
  refine a_iadd dL_law_2427 ?_
  refine a_iald dL_law_2428 (fun v513 => ?_)
  refine a_aload_n dL_law_2429 rfl 0 rfl ?_
  refine a_iload_n dL_law_2430 rfl 3 rfl ?_
  refine a_iconst (v := 3) dL_law_2431 (by decide) ?_
  refine a_iadd dL_law_2432 ?_
  refine a_iald dL_law_2433 (fun v514 => ?_)
  refine a_cV_Si (r := x2) (ci := 13) (as := [.int v512, .int v513, .int v514]) (st := [.int q511.1]) dL_law_2434 (c_X12_cell l g q511.2 x2 v512 v513 v514) rfl km_X12_cell (hm_X12_cell) rfl (by decide) rfl (fun _ ee => g_X12_cell ee) w_methodLink_RainCoverLaw_234 w_instanceMethod_RainCoverModel_cell__III_I w_selects_RainCoverModel_RainCoverModel_cell__III_I_RainCoverModel_cell__III_I ⟨⟨by decide, by decide⟩, ⟨by show k + 0 ≤ 600000; omega, by show n + 0 ≤ 7302250; omega⟩⟩ (Nat.le_of_ble_eq_true rfl) (fun q515 => ?_)
  refine a_icmp_eq 2505 dL_law_2437 (by decide) (fun c516 => ?_) (fun c516 => ?_)
  · refine a_widen (k + 7) (n + 100) (by omega) (by omega) ?_
    exact t_L_law_b2505 h0 N k n hk hn K18 hK18 q515.2 x0 x1 x2 x3
  · refine a_iconst (v := 0) dL_law_2440 (by decide) ?_
    exact a_zret dL_law_2441 rfl (Or.inl rfl) rfl (by show k ≤ 600000; omega) (by show n ≤ 7302250; omega)
set_option maxRecDepth 100000 in
set_option maxHeartbeats 40000000 in
theorem t_L_law_b2442 (h0 : AH) (N : Nat) (k n : Nat) (hk : k + 10 ≤ 600000) (hn : n + 120 ≤ 7302250) (K18 : AH → Nat → Nat → Nat → Int32 → Option (Int32 × AH)) (hK18 : ∀ (z : AH) (z0 : Nat) (z1 : Nat) (z2 : Nat) (z3 : Int32) , AO l g M_L_law true h0 18 [(0, .ref z0), (1, .ref z1), (2, .ref z2), (3, .int z3)] [] z (k + 7) (n + 100) rSi (K18 z z0 z1 z2 z3)) (h : AH) (x0 : Nat) (x1 : Nat) (x2 : Nat) (x3 : Int32) : AO l g M_L_law true h0 2442 [(0, .ref x0), (1, .ref x1), (2, .ref x2), (3, .int x3)] [] h k n rSi (f_L_law_b2442 N K18 h x0 x1 x2 x3) := by
  unfold f_L_law_b2442
  refine a_aload_n dL_law_2442 rfl 1 rfl ?_
  refine a_aload_n dL_law_2443 rfl 0 rfl ?_
  refine a_iload_n dL_law_2444 rfl 3 rfl ?_
  refine a_iconst (v := 1) dL_law_2445 (by decide) ?_
  refine a_iadd dL_law_2446 ?_
  refine a_iald dL_law_2447 (fun v517 => ?_)
  refine a_aload_n dL_law_2448 rfl 0 rfl ?_
  refine a_iload_n dL_law_2449 rfl 3 rfl ?_
  refine a_iconst (v := 2) dL_law_2450 (by decide) ?_
  refine a_iadd dL_law_2451 ?_
  refine a_iald dL_law_2452 (fun v518 => ?_)
  refine a_aload_n dL_law_2453 rfl 0 rfl ?_
  refine a_iload_n dL_law_2454 rfl 3 rfl ?_
  refine a_iconst (v := 3) dL_law_2455 (by decide) ?_
  refine a_iadd dL_law_2456 ?_
  refine a_iald dL_law_2457 (fun v519 => ?_)
  refine a_aload_n dL_law_2458 rfl 0 rfl ?_
  refine a_iload_n dL_law_2459 rfl 3 rfl ?_
  refine a_iconst (v := 4) dL_law_2460 (by decide) ?_
  refine a_iadd dL_law_2461 ?_
  refine a_iald dL_law_2462 (fun v520 => ?_)
  refine a_aload_n dL_law_2463 rfl 0 rfl ?_
  refine a_iload_n dL_law_2464 rfl 3 rfl ?_
  refine a_iconst (v := 5) dL_law_2465 (by decide) ?_
  refine a_iadd dL_law_2466 ?_
  refine a_iald dL_law_2467 (fun v521 => ?_)
  refine a_cV_Si (r := x1) (ci := 12) (as := [.int v517, .int v518, .int v519, .int v520, .int v521]) (st := []) dL_law_2468 (c_X11_copy l g h x1 v517 v518 v519 v520 v521) rfl km_X11_copy (hm_X11_copy) rfl (by decide) rfl (fun _ ee => g_X11_copy ee) w_methodLink_RainCoverLaw_235 w_instanceMethod_RainCover_copy__IIIII_I w_selects_RainCover_RainCover_copy__IIIII_I_RainCover_copy__IIIII_I ⟨⟨by decide, by decide⟩, ⟨by show k + 0 ≤ 600000; omega, by show n + 0 ≤ 7302250; omega⟩⟩ (Nat.le_of_ble_eq_true rfl) (fun q522 => ?_)
  refine a_aload_n dL_law_2471 rfl 2 rfl ?_
  refine a_aload_n dL_law_2472 rfl 0 rfl ?_
  refine a_iload_n dL_law_2473 rfl 3 rfl ?_
  refine a_iconst (v := 1) dL_law_2474 (by decide) ?_
  refine a_iadd dL_law_2475 ?_
  refine a_iald dL_law_2476 (fun v523 => ?_)
  refine a_aload_n dL_law_2477 rfl 0 rfl ?_
  refine a_iload_n dL_law_2478 rfl 3 rfl ?_
  refine a_iconst (v := 2) dL_law_2479 (by decide) ?_
  refine a_iadd dL_law_2480 ?_
  refine a_iald dL_law_2481 (fun v524 => ?_)
  refine a_aload_n dL_law_2482 rfl 0 rfl ?_
  refine a_iload_n dL_law_2483 rfl 3 rfl ?_
  refine a_iconst (v := 3) dL_law_2484 (by decide) ?_
  refine a_iadd dL_law_2485 ?_
  refine a_iald dL_law_2486 (fun v525 => ?_)
  refine a_aload_n dL_law_2487 rfl 0 rfl ?_
  refine a_iload_n dL_law_2488 rfl 3 rfl ?_
  refine a_iconst (v := 4) dL_law_2489 (by decide) ?_
  refine a_iadd dL_law_2490 ?_
  refine a_iald dL_law_2491 (fun v526 => ?_)
  refine a_aload_n dL_law_2492 rfl 0 rfl ?_
  refine a_iload_n dL_law_2493 rfl 3 rfl ?_
  refine a_iconst (v := 5) dL_law_2494 (by decide) ?_
  refine a_iadd dL_law_2495 ?_
  refine a_iald dL_law_2496 (fun v527 => ?_)
  refine a_cV_Si (r := x2) (ci := 13) (as := [.int v523, .int v524, .int v525, .int v526, .int v527]) (st := [.int q522.1]) dL_law_2497 (c_X12_copy l g q522.2 N x2 v523 v524 v525 v526 v527) rfl km_X12_copy (hm_X12_copy) rfl (by decide) rfl (fun _ ee => g_X12_copy ee) w_methodLink_RainCoverLaw_238 w_instanceMethod_RainCoverModel_copy__IIIII_I w_selects_RainCoverModel_RainCoverModel_copy__IIIII_I_RainCoverModel_copy__IIIII_I ⟨⟨by decide, by decide⟩, ⟨by show k + 0 ≤ 600000; omega, by show n + 0 ≤ 7302250; omega⟩⟩ (Nat.le_of_ble_eq_true rfl) (fun q528 => ?_)
  refine a_icmp_eq 2505 dL_law_2500 (by decide) (fun c529 => ?_) (fun c529 => ?_)
  · refine a_widen (k + 7) (n + 100) (by omega) (by omega) ?_
    exact t_L_law_b2505 h0 N k n hk hn K18 hK18 q528.2 x0 x1 x2 x3
  · refine a_iconst (v := 0) dL_law_2503 (by decide) ?_
    exact a_zret dL_law_2504 rfl (Or.inl rfl) rfl (by show k ≤ 600000; omega) (by show n ≤ 7302250; omega)
set_option maxRecDepth 100000 in
set_option maxHeartbeats 40000000 in
theorem t_L_law_b18_body (h0 : AH) (N : Nat) (k n : Nat) (hk : k + 10 ≤ 600000) (hn : n + 120 ≤ 7302250) (K18 : AH → Nat → Nat → Nat → Int32 → Option (Int32 × AH)) (hK18 : ∀ (z : AH) (z0 : Nat) (z1 : Nat) (z2 : Nat) (z3 : Int32) , AO l g M_L_law true h0 18 [(0, .ref z0), (1, .ref z1), (2, .ref z2), (3, .int z3)] [] z (k + 7) (n + 100) rSi (K18 z z0 z1 z2 z3)) (h : AH) (x0 : Nat) (x1 : Nat) (x2 : Nat) (x3 : Int32) : AO l g M_L_law true h0 18 [(0, .ref x0), (1, .ref x1), (2, .ref x2), (3, .int x3)] [] h k n rSi (f_L_law_b18_body N K18 h x0 x1 x2 x3) := by
  unfold f_L_law_b18_body
  refine a_iload_n dL_law_18 rfl 3 rfl ?_
  refine a_aload_n dL_law_19 rfl 0 rfl ?_
  refine a_alen dL_law_20 (fun v5 => ?_)
  refine a_bipush (v := 8) dL_law_21 (by decide) ?_
  refine a_isub dL_law_23 ?_
  refine a_icmp_gt 2511 dL_law_24 (by decide) (fun c6 => ?_) (fun c6 => ?_)
  · refine a_iconst (v := 1) dL_law_2511 (by decide) ?_
    exact a_zret dL_law_2512 rfl (Or.inr rfl) rfl (by show k ≤ 600000; omega) (by show n ≤ 7302250; omega)
  · refine a_aload_n dL_law_27 rfl 0 rfl ?_
    refine a_iload_n dL_law_28 rfl 3 rfl ?_
    refine a_iald dL_law_29 (fun v7 => ?_)
    refine a_bipush (v := 63) dL_law_30 (by decide) ?_
    refine a_iand dL_law_32 ?_
    refine a_swt (v := 0) 264 dL_law_33 (by decide) (by decide) (fun c8 => ?_) (fun c8 => ?_)
    · exact t_L_law_b264 h0 N k n hk hn K18 hK18 h x0 x1 x2 x3
    refine a_swt (v := 1) 307 dL_law_33 (by decide) (by decide) (fun c9 => ?_) (fun c9 => ?_)
    · exact t_L_law_b307 h0 N k n hk hn K18 hK18 h x0 x1 x2 x3
    refine a_swt (v := 2) 340 dL_law_33 (by decide) (by decide) (fun c10 => ?_) (fun c10 => ?_)
    · exact t_L_law_b340 h0 N k n hk hn K18 hK18 h x0 x1 x2 x3
    refine a_swt (v := 3) 373 dL_law_33 (by decide) (by decide) (fun c11 => ?_) (fun c11 => ?_)
    · exact t_L_law_b373 h0 N k n hk hn K18 hK18 h x0 x1 x2 x3
    refine a_swt (v := 4) 426 dL_law_33 (by decide) (by decide) (fun c12 => ?_) (fun c12 => ?_)
    · exact t_L_law_b426 h0 N k n hk hn K18 hK18 h x0 x1 x2 x3
    refine a_swt (v := 5) 479 dL_law_33 (by decide) (by decide) (fun c13 => ?_) (fun c13 => ?_)
    · exact t_L_law_b479 h0 N k n hk hn K18 hK18 h x0 x1 x2 x3
    refine a_swt (v := 6) 532 dL_law_33 (by decide) (by decide) (fun c14 => ?_) (fun c14 => ?_)
    · exact t_L_law_b532 h0 N k n hk hn K18 hK18 h x0 x1 x2 x3
    refine a_swt (v := 7) 595 dL_law_33 (by decide) (by decide) (fun c15 => ?_) (fun c15 => ?_)
    · exact t_L_law_b595 h0 N k n hk hn K18 hK18 h x0 x1 x2 x3
    refine a_swt (v := 8) 648 dL_law_33 (by decide) (by decide) (fun c16 => ?_) (fun c16 => ?_)
    · exact t_L_law_b648 h0 N k n hk hn K18 hK18 h x0 x1 x2 x3
    refine a_swt (v := 9) 701 dL_law_33 (by decide) (by decide) (fun c17 => ?_) (fun c17 => ?_)
    · exact t_L_law_b701 h0 N k n hk hn K18 hK18 h x0 x1 x2 x3
    refine a_swt (v := 10) 754 dL_law_33 (by decide) (by decide) (fun c18 => ?_) (fun c18 => ?_)
    · exact t_L_law_b754 h0 N k n hk hn K18 hK18 h x0 x1 x2 x3
    refine a_swt (v := 11) 787 dL_law_33 (by decide) (by decide) (fun c19 => ?_) (fun c19 => ?_)
    · exact t_L_law_b787 h0 N k n hk hn K18 hK18 h x0 x1 x2 x3
    refine a_swt (v := 12) 820 dL_law_33 (by decide) (by decide) (fun c20 => ?_) (fun c20 => ?_)
    · exact t_L_law_b820 h0 N k n hk hn K18 hK18 h x0 x1 x2 x3
    refine a_swt (v := 13) 833 dL_law_33 (by decide) (by decide) (fun c21 => ?_) (fun c21 => ?_)
    · exact t_L_law_b833 h0 N k n hk hn K18 hK18 h x0 x1 x2 x3
    refine a_swt (v := 14) 896 dL_law_33 (by decide) (by decide) (fun c22 => ?_) (fun c22 => ?_)
    · exact t_L_law_b896 h0 N k n hk hn K18 hK18 h x0 x1 x2 x3
    refine a_swt (v := 15) 949 dL_law_33 (by decide) (by decide) (fun c23 => ?_) (fun c23 => ?_)
    · exact t_L_law_b949 h0 N k n hk hn K18 hK18 h x0 x1 x2 x3
    refine a_swt (v := 16) 982 dL_law_33 (by decide) (by decide) (fun c24 => ?_) (fun c24 => ?_)
    · exact t_L_law_b982 h0 N k n hk hn K18 hK18 h x0 x1 x2 x3
    refine a_swt (v := 17) 1025 dL_law_33 (by decide) (by decide) (fun c25 => ?_) (fun c25 => ?_)
    · exact t_L_law_b1025 h0 N k n hk hn K18 hK18 h x0 x1 x2 x3
    refine a_swt (v := 18) 1058 dL_law_33 (by decide) (by decide) (fun c26 => ?_) (fun c26 => ?_)
    · exact t_L_law_b1058 h0 N k n hk hn K18 hK18 h x0 x1 x2 x3
    refine a_swt (v := 19) 1101 dL_law_33 (by decide) (by decide) (fun c27 => ?_) (fun c27 => ?_)
    · exact t_L_law_b1101 h0 N k n hk hn K18 hK18 h x0 x1 x2 x3
    refine a_swt (v := 20) 1144 dL_law_33 (by decide) (by decide) (fun c28 => ?_) (fun c28 => ?_)
    · exact t_L_law_b1144 h0 N k n hk hn K18 hK18 h x0 x1 x2 x3
    refine a_swt (v := 21) 1187 dL_law_33 (by decide) (by decide) (fun c29 => ?_) (fun c29 => ?_)
    · exact t_L_law_b1187 h0 N k n hk hn K18 hK18 h x0 x1 x2 x3
    refine a_swt (v := 22) 1240 dL_law_33 (by decide) (by decide) (fun c30 => ?_) (fun c30 => ?_)
    · exact t_L_law_b1240 h0 N k n hk hn K18 hK18 h x0 x1 x2 x3
    refine a_swt (v := 23) 1284 dL_law_33 (by decide) (by decide) (fun c31 => ?_) (fun c31 => ?_)
    · exact t_L_law_b1284 h0 N k n hk hn K18 hK18 h x0 x1 x2 x3
    refine a_swt (v := 24) 1317 dL_law_33 (by decide) (by decide) (fun c32 => ?_) (fun c32 => ?_)
    · exact t_L_law_b1317 h0 N k n hk hn K18 hK18 h x0 x1 x2 x3
    refine a_swt (v := 25) 1350 dL_law_33 (by decide) (by decide) (fun c33 => ?_) (fun c33 => ?_)
    · exact t_L_law_b1350 h0 N k n hk hn K18 hK18 h x0 x1 x2 x3
    refine a_swt (v := 26) 1414 dL_law_33 (by decide) (by decide) (fun c34 => ?_) (fun c34 => ?_)
    · exact t_L_law_b1414 h0 N k n hk hn K18 hK18 h x0 x1 x2 x3
    refine a_swt (v := 27) 1477 dL_law_33 (by decide) (by decide) (fun c35 => ?_) (fun c35 => ?_)
    · exact t_L_law_b1477 h0 N k n hk hn K18 hK18 h x0 x1 x2 x3
    refine a_swt (v := 28) 1541 dL_law_33 (by decide) (by decide) (fun c36 => ?_) (fun c36 => ?_)
    · exact t_L_law_b1541 h0 N k n hk hn K18 hK18 h x0 x1 x2 x3
    refine a_swt (v := 29) 1616 dL_law_33 (by decide) (by decide) (fun c37 => ?_) (fun c37 => ?_)
    · exact t_L_law_b1616 h0 N k n hk hn K18 hK18 h x0 x1 x2 x3
    refine a_swt (v := 30) 1703 dL_law_33 (by decide) (by decide) (fun c38 => ?_) (fun c38 => ?_)
    · exact t_L_law_b1703 h0 N k n hk hn K18 hK18 h x0 x1 x2 x3
    refine a_swt (v := 31) 1726 dL_law_33 (by decide) (by decide) (fun c39 => ?_) (fun c39 => ?_)
    · exact t_L_law_b1726 h0 N k n hk hn K18 hK18 h x0 x1 x2 x3
    refine a_swt (v := 32) 1759 dL_law_33 (by decide) (by decide) (fun c40 => ?_) (fun c40 => ?_)
    · exact t_L_law_b1759 h0 N k n hk hn K18 hK18 h x0 x1 x2 x3
    refine a_swt (v := 33) 1812 dL_law_33 (by decide) (by decide) (fun c41 => ?_) (fun c41 => ?_)
    · exact t_L_law_b1812 h0 N k n hk hn K18 hK18 h x0 x1 x2 x3
    refine a_swt (v := 34) 1835 dL_law_33 (by decide) (by decide) (fun c42 => ?_) (fun c42 => ?_)
    · exact t_L_law_b1835 h0 N k n hk hn K18 hK18 h x0 x1 x2 x3
    refine a_swt (v := 35) 1888 dL_law_33 (by decide) (by decide) (fun c43 => ?_) (fun c43 => ?_)
    · exact t_L_law_b1888 h0 N k n hk hn K18 hK18 h x0 x1 x2 x3
    refine a_swt (v := 36) 1911 dL_law_33 (by decide) (by decide) (fun c44 => ?_) (fun c44 => ?_)
    · exact t_L_law_b1911 h0 N k n hk hn K18 hK18 h x0 x1 x2 x3
    refine a_swt (v := 37) 1944 dL_law_33 (by decide) (by decide) (fun c45 => ?_) (fun c45 => ?_)
    · exact t_L_law_b1944 h0 N k n hk hn K18 hK18 h x0 x1 x2 x3
    refine a_swt (v := 38) 1967 dL_law_33 (by decide) (by decide) (fun c46 => ?_) (fun c46 => ?_)
    · exact t_L_law_b1967 h0 N k n hk hn K18 hK18 h x0 x1 x2 x3
    refine a_swt (v := 39) 1990 dL_law_33 (by decide) (by decide) (fun c47 => ?_) (fun c47 => ?_)
    · exact t_L_law_b1990 h0 N k n hk hn K18 hK18 h x0 x1 x2 x3
    refine a_swt (v := 40) 2023 dL_law_33 (by decide) (by decide) (fun c48 => ?_) (fun c48 => ?_)
    · exact t_L_law_b2023 h0 N k n hk hn K18 hK18 h x0 x1 x2 x3
    refine a_swt (v := 41) 2056 dL_law_33 (by decide) (by decide) (fun c49 => ?_) (fun c49 => ?_)
    · exact t_L_law_b2056 h0 N k n hk hn K18 hK18 h x0 x1 x2 x3
    refine a_swt (v := 42) 2079 dL_law_33 (by decide) (by decide) (fun c50 => ?_) (fun c50 => ?_)
    · exact t_L_law_b2079 h0 N k n hk hn K18 hK18 h x0 x1 x2 x3
    refine a_swt (v := 43) 2112 dL_law_33 (by decide) (by decide) (fun c51 => ?_) (fun c51 => ?_)
    · exact t_L_law_b2112 h0 N k n hk hn K18 hK18 h x0 x1 x2 x3
    refine a_swt (v := 44) 2135 dL_law_33 (by decide) (by decide) (fun c52 => ?_) (fun c52 => ?_)
    · exact t_L_law_b2135 h0 N k n hk hn K18 hK18 h x0 x1 x2 x3
    refine a_swt (v := 45) 2168 dL_law_33 (by decide) (by decide) (fun c53 => ?_) (fun c53 => ?_)
    · exact t_L_law_b2168 h0 N k n hk hn K18 hK18 h x0 x1 x2 x3
    refine a_swt (v := 46) 2201 dL_law_33 (by decide) (by decide) (fun c54 => ?_) (fun c54 => ?_)
    · exact t_L_law_b2201 h0 N k n hk hn K18 hK18 h x0 x1 x2 x3
    refine a_swt (v := 47) 2234 dL_law_33 (by decide) (by decide) (fun c55 => ?_) (fun c55 => ?_)
    · exact t_L_law_b2234 h0 N k n hk hn K18 hK18 h x0 x1 x2 x3
    refine a_swt (v := 48) 2277 dL_law_33 (by decide) (by decide) (fun c56 => ?_) (fun c56 => ?_)
    · exact t_L_law_b2277 h0 N k n hk hn K18 hK18 h x0 x1 x2 x3
    refine a_swt (v := 49) 2300 dL_law_33 (by decide) (by decide) (fun c57 => ?_) (fun c57 => ?_)
    · exact t_L_law_b2300 h0 N k n hk hn K18 hK18 h x0 x1 x2 x3
    refine a_swt (v := 50) 2333 dL_law_33 (by decide) (by decide) (fun c58 => ?_) (fun c58 => ?_)
    · exact t_L_law_b2333 h0 N k n hk hn K18 hK18 h x0 x1 x2 x3
    refine a_swt (v := 51) 2356 dL_law_33 (by decide) (by decide) (fun c59 => ?_) (fun c59 => ?_)
    · exact t_L_law_b2356 h0 N k n hk hn K18 hK18 h x0 x1 x2 x3
    refine a_swt (v := 52) 2399 dL_law_33 (by decide) (by decide) (fun c60 => ?_) (fun c60 => ?_)
    · exact t_L_law_b2399 h0 N k n hk hn K18 hK18 h x0 x1 x2 x3
    refine a_swt (v := 53) 2442 dL_law_33 (by decide) (by decide) (fun c61 => ?_) (fun c61 => ?_)
    · exact t_L_law_b2442 h0 N k n hk hn K18 hK18 h x0 x1 x2 x3
    refine a_swtd (vs := [0, 1, 2, 3, 4, 5, 6, 7, 8, 9, 10, 11, 12, 13, 14, 15, 16, 17, 18, 19, 20, 21, 22, 23, 24, 25, 26, 27, 28, 29, 30, 31, 32, 33, 34, 35, 36, 37, 38, 39, 40, 41, 42, 43, 44, 45, 46, 47, 48, 49, 50, 51, 52, 53]) 2505 dL_law_33 (by decide) (by decide) (List.forall_mem_cons.mpr ⟨c8, List.forall_mem_cons.mpr ⟨c9, List.forall_mem_cons.mpr ⟨c10, List.forall_mem_cons.mpr ⟨c11, List.forall_mem_cons.mpr ⟨c12, List.forall_mem_cons.mpr ⟨c13, List.forall_mem_cons.mpr ⟨c14, List.forall_mem_cons.mpr ⟨c15, List.forall_mem_cons.mpr ⟨c16, List.forall_mem_cons.mpr ⟨c17, List.forall_mem_cons.mpr ⟨c18, List.forall_mem_cons.mpr ⟨c19, List.forall_mem_cons.mpr ⟨c20, List.forall_mem_cons.mpr ⟨c21, List.forall_mem_cons.mpr ⟨c22, List.forall_mem_cons.mpr ⟨c23, List.forall_mem_cons.mpr ⟨c24, List.forall_mem_cons.mpr ⟨c25, List.forall_mem_cons.mpr ⟨c26, List.forall_mem_cons.mpr ⟨c27, List.forall_mem_cons.mpr ⟨c28, List.forall_mem_cons.mpr ⟨c29, List.forall_mem_cons.mpr ⟨c30, List.forall_mem_cons.mpr ⟨c31, List.forall_mem_cons.mpr ⟨c32, List.forall_mem_cons.mpr ⟨c33, List.forall_mem_cons.mpr ⟨c34, List.forall_mem_cons.mpr ⟨c35, List.forall_mem_cons.mpr ⟨c36, List.forall_mem_cons.mpr ⟨c37, List.forall_mem_cons.mpr ⟨c38, List.forall_mem_cons.mpr ⟨c39, List.forall_mem_cons.mpr ⟨c40, List.forall_mem_cons.mpr ⟨c41, List.forall_mem_cons.mpr ⟨c42, List.forall_mem_cons.mpr ⟨c43, List.forall_mem_cons.mpr ⟨c44, List.forall_mem_cons.mpr ⟨c45, List.forall_mem_cons.mpr ⟨c46, List.forall_mem_cons.mpr ⟨c47, List.forall_mem_cons.mpr ⟨c48, List.forall_mem_cons.mpr ⟨c49, List.forall_mem_cons.mpr ⟨c50, List.forall_mem_cons.mpr ⟨c51, List.forall_mem_cons.mpr ⟨c52, List.forall_mem_cons.mpr ⟨c53, List.forall_mem_cons.mpr ⟨c54, List.forall_mem_cons.mpr ⟨c55, List.forall_mem_cons.mpr ⟨c56, List.forall_mem_cons.mpr ⟨c57, List.forall_mem_cons.mpr ⟨c58, List.forall_mem_cons.mpr ⟨c59, List.forall_mem_cons.mpr ⟨c60, List.forall_mem_cons.mpr ⟨c61, fun _ hh => absurd hh List.not_mem_nil⟩⟩⟩⟩⟩⟩⟩⟩⟩⟩⟩⟩⟩⟩⟩⟩⟩⟩⟩⟩⟩⟩⟩⟩⟩⟩⟩⟩⟩⟩⟩⟩⟩⟩⟩⟩⟩⟩⟩⟩⟩⟩⟩⟩⟩⟩⟩⟩⟩⟩⟩⟩⟩⟩) ?_
    refine a_widen (k + 7) (n + 100) (by omega) (by omega) ?_
    exact t_L_law_b2505 h0 N k n hk hn K18 hK18 h x0 x1 x2 x3
set_option maxRecDepth 100000 in
set_option maxHeartbeats 40000000 in
theorem t_L_law_b18 (h0 : AH) (N : Nat) : ∀ (f k n : Nat) (_ : k + 7 * f + 10 ≤ 600000) (_ : n + 100 * f + 120 ≤ 7302250) (h : AH) (x0 : Nat) (x1 : Nat) (x2 : Nat) (x3 : Int32) , AO l g M_L_law true h0 18 [(0, .ref x0), (1, .ref x1), (2, .ref x2), (3, .int x3)] [] h k n rSi (f_L_law_b18 N f h x0 x1 x2 x3) := by
  intro f
  induction f with
  | zero => intro k n _ _ h x0 x1 x2 x3; exact a_eq rfl a_none
  | succ f ih => intro k n hk hn h x0 x1 x2 x3; exact a_eq rfl (t_L_law_b18_body h0 N k n (by omega) (by omega) (f_L_law_b18 N f) (ih (k + 7) (n + 100) (by omega) (by omega)) h x0 x1 x2 x3)
set_option maxRecDepth 100000 in
set_option maxHeartbeats 40000000 in
theorem t_L_law (h0 : AH) (N : Nat) (hN : N ≤ 5000) (p0 : Nat) : AO l g M_L_law true h0 0 [(0, .ref p0)] [] h0 0 0 rSi (f_L_law h0 N p0) := by
  unfold f_L_law
  refine a_new (r := 1) kc12 [p0] rfl dL_law_0 (by decide +kernel) w_classLink_RainCoverLaw_7 w_instantiable_RainCover w_initialized_RainCover (by decide) (by decide) (fun h1 => ?_)
  refine a_widen 1 20 (by decide) (by decide) ?_
  refine a_dup dL_law_3 rfl ?_
  refine a_xI_Sv (r := 1) (as := []) (st := [.ref 1]) dL_law_4 [p0, 1] rfl (c_X11_init l g h1 1) rfl km_X11_init rfl rfl w_methodLink_RainCoverLaw_9 w_instanceMethod_RainCover__init____V ⟨⟨by decide, by decide⟩, ⟨by decide, by decide⟩⟩ (Nat.le_of_ble_eq_true rfl) (fun q2 => ?_)
  refine a_widen 32 8066 (by decide) (by decide) ?_
  refine a_astore_n (lc2 := [(1, .ref 1), (0, .ref p0)]) dL_law_7 rfl (by decide) rfl ?_
  refine a_new (r := 100) kc13 [1, p0] rfl dL_law_8 (by decide +kernel) w_classLink_RainCoverLaw_10 w_instantiable_RainCoverModel w_initialized_RainCoverModel (by decide) (by decide) (fun h3 => ?_)
  refine a_widen 33 8143 (by decide) (by decide) ?_
  refine a_dup dL_law_11 rfl ?_
  refine a_xI_Sv (r := 100) (as := []) (st := [.ref 100]) dL_law_12 [1, p0, 100] rfl (c_X12_init l g h3 N 100) rfl km_X12_init rfl rfl w_methodLink_RainCoverLaw_12 w_instanceMethod_RainCoverModel__init____V ⟨⟨by decide, by decide⟩, ⟨by decide, by decide⟩⟩ (Nat.le_of_ble_eq_true rfl) (fun q4 => ?_)
  refine a_widen 93 17532 (by decide) (by decide) ?_
  refine a_astore_n (lc2 := [(2, .ref 100), (1, .ref 1), (0, .ref p0)]) dL_law_15 rfl (by decide) rfl ?_
  refine a_iconst (v := 0) dL_law_16 (by decide) ?_
  refine a_istore_n (lc2 := [(3, .int 0), (2, .ref 100), (1, .ref 1), (0, .ref p0)]) dL_law_17 rfl (by decide) rfl ?_
  refine a_pick (lc2 := [(0, .ref p0), (1, .ref 1), (2, .ref 100), (3, .int 0)]) [3, 2, 1, 0] rfl ?_
  exact t_L_law_b18 h0 N N 93 17532 (by omega) (by omega) q4 p0 1 100 0
end
