theorem dL_law_1323 : decode cL_law 1323 = .ok (.aload_n 1, 1) := by decide +kernel
theorem dL_law_1324 : decode cL_law 1324 = .ok (.aload_n 0, 1) := by decide +kernel
theorem dL_law_1325 : decode cL_law 1325 = .ok (.iload 4, 2) := by decide +kernel
theorem dL_law_1327 : decode cL_law 1327 = .ok (.iconst 1, 1) := by decide +kernel
theorem dL_law_1328 : decode cL_law 1328 = .ok (.iadd, 1) := by decide +kernel
theorem dL_law_1329 : decode cL_law 1329 = .ok (.iaload, 1) := by decide +kernel
theorem dL_law_1330 : decode cL_law 1330 = .ok (.aload_n 0, 1) := by decide +kernel
theorem dL_law_1331 : decode cL_law 1331 = .ok (.iload 4, 2) := by decide +kernel
theorem dL_law_1333 : decode cL_law 1333 = .ok (.iconst 2, 1) := by decide +kernel
theorem dL_law_1334 : decode cL_law 1334 = .ok (.iadd, 1) := by decide +kernel
theorem dL_law_1335 : decode cL_law 1335 = .ok (.iaload, 1) := by decide +kernel
theorem dL_law_1336 : decode cL_law 1336 = .ok (.aload_n 0, 1) := by decide +kernel
theorem dL_law_1337 : decode cL_law 1337 = .ok (.iload 4, 2) := by decide +kernel
theorem dL_law_1339 : decode cL_law 1339 = .ok (.iconst 3, 1) := by decide +kernel
theorem dL_law_1340 : decode cL_law 1340 = .ok (.iadd, 1) := by decide +kernel
theorem dL_law_1341 : decode cL_law 1341 = .ok (.iaload, 1) := by decide +kernel
theorem dL_law_1342 : decode cL_law 1342 = .ok (.aload_n 3, 1) := by decide +kernel
theorem dL_law_1343 : decode cL_law 1343 = .ok (.invokestatic 176, 3) := by decide +kernel
theorem dL_law_1346 : decode cL_law 1346 = .ok (.istore 5, 2) := by decide +kernel
theorem dL_law_1348 : decode cL_law 1348 = .ok (.aload_n 2, 1) := by decide +kernel
theorem dL_law_1349 : decode cL_law 1349 = .ok (.aload_n 0, 1) := by decide +kernel
theorem dL_law_1350 : decode cL_law 1350 = .ok (.iload 4, 2) := by decide +kernel
theorem dL_law_1352 : decode cL_law 1352 = .ok (.iconst 1, 1) := by decide +kernel
theorem dL_law_1353 : decode cL_law 1353 = .ok (.iadd, 1) := by decide +kernel
theorem dL_law_1354 : decode cL_law 1354 = .ok (.iaload, 1) := by decide +kernel
theorem dL_law_1355 : decode cL_law 1355 = .ok (.aload_n 0, 1) := by decide +kernel
theorem dL_law_1356 : decode cL_law 1356 = .ok (.iload 4, 2) := by decide +kernel
theorem dL_law_1358 : decode cL_law 1358 = .ok (.iconst 2, 1) := by decide +kernel
theorem dL_law_1359 : decode cL_law 1359 = .ok (.iadd, 1) := by decide +kernel
theorem dL_law_1360 : decode cL_law 1360 = .ok (.iaload, 1) := by decide +kernel
theorem dL_law_1361 : decode cL_law 1361 = .ok (.aload_n 0, 1) := by decide +kernel
theorem dL_law_1362 : decode cL_law 1362 = .ok (.iload 4, 2) := by decide +kernel
theorem dL_law_1364 : decode cL_law 1364 = .ok (.iconst 3, 1) := by decide +kernel
theorem dL_law_1365 : decode cL_law 1365 = .ok (.iadd, 1) := by decide +kernel
theorem dL_law_1366 : decode cL_law 1366 = .ok (.iaload, 1) := by decide +kernel
theorem dL_law_1367 : decode cL_law 1367 = .ok (.invokevirtual 179, 3) := by decide +kernel
theorem dL_law_1370 : decode cL_law 1370 = .ok (.istore 6, 2) := by decide +kernel
theorem dL_law_1372 : decode cL_law 1372 = .ok (.aload_n 2, 1) := by decide +kernel
theorem dL_law_1373 : decode cL_law 1373 = .ok (.invokevirtual 113, 3) := by decide +kernel
theorem dL_law_1376 : decode cL_law 1376 = .ok (.iload 5, 2) := by decide +kernel
theorem dL_law_1378 : decode cL_law 1378 = .ok (.if_icmp .eq 5, 3) := by decide +kernel
theorem dL_law_1383 : decode cL_law 1383 = .ok (.iload 5, 2) := by decide +kernel
theorem dL_law_1385 : decode cL_law 1385 = .ok (.ifCond .ne 15, 3) := by decide +kernel
theorem dL_law_1400 : decode cL_law 1400 = .ok (.goto 920, 3) := by decide +kernel
theorem dL_law_1403 : decode cL_law 1403 = .ok (.aload_n 1, 1) := by decide +kernel
theorem dL_law_1404 : decode cL_law 1404 = .ok (.aload_n 0, 1) := by decide +kernel
theorem dL_law_1405 : decode cL_law 1405 = .ok (.iload 4, 2) := by decide +kernel
theorem dL_law_1407 : decode cL_law 1407 = .ok (.iconst 1, 1) := by decide +kernel
theorem dL_law_1408 : decode cL_law 1408 = .ok (.iadd, 1) := by decide +kernel
theorem dL_law_1409 : decode cL_law 1409 = .ok (.iaload, 1) := by decide +kernel
theorem dL_law_1410 : decode cL_law 1410 = .ok (.aload_n 3, 1) := by decide +kernel
theorem dL_law_1411 : decode cL_law 1411 = .ok (.invokestatic 180, 3) := by decide +kernel
theorem dL_law_1414 : decode cL_law 1414 = .ok (.istore 5, 2) := by decide +kernel
theorem dL_law_1416 : decode cL_law 1416 = .ok (.aload_n 2, 1) := by decide +kernel
theorem dL_law_1417 : decode cL_law 1417 = .ok (.aload_n 0, 1) := by decide +kernel
theorem dL_law_1418 : decode cL_law 1418 = .ok (.iload 4, 2) := by decide +kernel
theorem dL_law_1420 : decode cL_law 1420 = .ok (.iconst 1, 1) := by decide +kernel
theorem dL_law_1421 : decode cL_law 1421 = .ok (.iadd, 1) := by decide +kernel
theorem dL_law_1422 : decode cL_law 1422 = .ok (.iaload, 1) := by decide +kernel
theorem dL_law_1423 : decode cL_law 1423 = .ok (.invokevirtual 182, 3) := by decide +kernel
theorem dL_law_1426 : decode cL_law 1426 = .ok (.istore 6, 2) := by decide +kernel
theorem dL_law_1428 : decode cL_law 1428 = .ok (.aload_n 2, 1) := by decide +kernel
theorem dL_law_1429 : decode cL_law 1429 = .ok (.invokevirtual 113, 3) := by decide +kernel
theorem dL_law_1432 : decode cL_law 1432 = .ok (.iload 5, 2) := by decide +kernel
theorem dL_law_1434 : decode cL_law 1434 = .ok (.if_icmp .eq 5, 3) := by decide +kernel
theorem dL_law_1439 : decode cL_law 1439 = .ok (.iload 5, 2) := by decide +kernel
theorem dL_law_1441 : decode cL_law 1441 = .ok (.ifCond .ne 15, 3) := by decide +kernel
theorem dL_law_1456 : decode cL_law 1456 = .ok (.goto 864, 3) := by decide +kernel
theorem dL_law_1459 : decode cL_law 1459 = .ok (.aload_n 1, 1) := by decide +kernel
theorem dL_law_1460 : decode cL_law 1460 = .ok (.aload_n 0, 1) := by decide +kernel
theorem dL_law_1461 : decode cL_law 1461 = .ok (.iload 4, 2) := by decide +kernel
theorem dL_law_1463 : decode cL_law 1463 = .ok (.iconst 1, 1) := by decide +kernel
theorem dL_law_1464 : decode cL_law 1464 = .ok (.iadd, 1) := by decide +kernel
theorem dL_law_1465 : decode cL_law 1465 = .ok (.iaload, 1) := by decide +kernel
theorem dL_law_1466 : decode cL_law 1466 = .ok (.aload_n 0, 1) := by decide +kernel
theorem dL_law_1467 : decode cL_law 1467 = .ok (.iload 4, 2) := by decide +kernel
theorem dL_law_1469 : decode cL_law 1469 = .ok (.iconst 2, 1) := by decide +kernel
theorem dL_law_1470 : decode cL_law 1470 = .ok (.iadd, 1) := by decide +kernel
theorem dL_law_1471 : decode cL_law 1471 = .ok (.iaload, 1) := by decide +kernel
theorem dL_law_1472 : decode cL_law 1472 = .ok (.aload_n 3, 1) := by decide +kernel
theorem dL_law_1473 : decode cL_law 1473 = .ok (.invokestatic 183, 3) := by decide +kernel
theorem dL_law_1476 : decode cL_law 1476 = .ok (.istore 5, 2) := by decide +kernel
theorem dL_law_1478 : decode cL_law 1478 = .ok (.aload_n 2, 1) := by decide +kernel
theorem dL_law_1479 : decode cL_law 1479 = .ok (.aload_n 0, 1) := by decide +kernel
theorem dL_law_1480 : decode cL_law 1480 = .ok (.iload 4, 2) := by decide +kernel
theorem dL_law_1482 : decode cL_law 1482 = .ok (.iconst 1, 1) := by decide +kernel
theorem dL_law_1483 : decode cL_law 1483 = .ok (.iadd, 1) := by decide +kernel
theorem dL_law_1484 : decode cL_law 1484 = .ok (.iaload, 1) := by decide +kernel
theorem dL_law_1485 : decode cL_law 1485 = .ok (.aload_n 0, 1) := by decide +kernel
theorem dL_law_1486 : decode cL_law 1486 = .ok (.iload 4, 2) := by decide +kernel
theorem dL_law_1488 : decode cL_law 1488 = .ok (.iconst 2, 1) := by decide +kernel
theorem dL_law_1489 : decode cL_law 1489 = .ok (.iadd, 1) := by decide +kernel
theorem dL_law_1490 : decode cL_law 1490 = .ok (.iaload, 1) := by decide +kernel
theorem dL_law_1491 : decode cL_law 1491 = .ok (.invokevirtual 185, 3) := by decide +kernel
theorem dL_law_1494 : decode cL_law 1494 = .ok (.istore 6, 2) := by decide +kernel
theorem dL_law_1496 : decode cL_law 1496 = .ok (.aload_n 2, 1) := by decide +kernel
theorem dL_law_1497 : decode cL_law 1497 = .ok (.invokevirtual 113, 3) := by decide +kernel
theorem dL_law_1500 : decode cL_law 1500 = .ok (.iload 5, 2) := by decide +kernel
theorem dL_law_1502 : decode cL_law 1502 = .ok (.if_icmp .eq 5, 3) := by decide +kernel
theorem dL_law_1507 : decode cL_law 1507 = .ok (.iload 5, 2) := by decide +kernel
theorem dL_law_1509 : decode cL_law 1509 = .ok (.ifCond .ne 15, 3) := by decide +kernel
theorem dL_law_1524 : decode cL_law 1524 = .ok (.goto 796, 3) := by decide +kernel
theorem dL_law_1527 : decode cL_law 1527 = .ok (.aload_n 1, 1) := by decide +kernel
theorem dL_law_1528 : decode cL_law 1528 = .ok (.invokevirtual 186, 3) := by decide +kernel
theorem dL_law_1531 : decode cL_law 1531 = .ok (.aload_n 2, 1) := by decide +kernel
theorem dL_law_1532 : decode cL_law 1532 = .ok (.invokevirtual 189, 3) := by decide +kernel
theorem dL_law_1535 : decode cL_law 1535 = .ok (.if_icmp .eq 785, 3) := by decide +kernel
theorem dL_law_1540 : decode cL_law 1540 = .ok (.aload_n 1, 1) := by decide +kernel
theorem dL_law_1541 : decode cL_law 1541 = .ok (.aload_n 0, 1) := by decide +kernel
theorem dL_law_1542 : decode cL_law 1542 = .ok (.iload 4, 2) := by decide +kernel
theorem dL_law_1544 : decode cL_law 1544 = .ok (.iconst 1, 1) := by decide +kernel
theorem dL_law_1545 : decode cL_law 1545 = .ok (.iadd, 1) := by decide +kernel
theorem dL_law_1546 : decode cL_law 1546 = .ok (.iaload, 1) := by decide +kernel
theorem dL_law_1547 : decode cL_law 1547 = .ok (.aload_n 3, 1) := by decide +kernel
theorem dL_law_1548 : decode cL_law 1548 = .ok (.invokestatic 190, 3) := by decide +kernel
theorem dL_law_1551 : decode cL_law 1551 = .ok (.istore 5, 2) := by decide +kernel
theorem dL_law_1553 : decode cL_law 1553 = .ok (.aload_n 2, 1) := by decide +kernel
theorem dL_law_1554 : decode cL_law 1554 = .ok (.aload_n 0, 1) := by decide +kernel
theorem dL_law_1555 : decode cL_law 1555 = .ok (.iload 4, 2) := by decide +kernel
theorem dL_law_1557 : decode cL_law 1557 = .ok (.iconst 1, 1) := by decide +kernel
theorem dL_law_1558 : decode cL_law 1558 = .ok (.iadd, 1) := by decide +kernel
theorem dL_law_1559 : decode cL_law 1559 = .ok (.iaload, 1) := by decide +kernel
theorem dL_law_1560 : decode cL_law 1560 = .ok (.invokevirtual 192, 3) := by decide +kernel
theorem dL_law_1563 : decode cL_law 1563 = .ok (.istore 6, 2) := by decide +kernel
theorem dL_law_1565 : decode cL_law 1565 = .ok (.aload_n 2, 1) := by decide +kernel
theorem dL_law_1566 : decode cL_law 1566 = .ok (.invokevirtual 113, 3) := by decide +kernel
theorem dL_law_1569 : decode cL_law 1569 = .ok (.iload 5, 2) := by decide +kernel
theorem dL_law_1571 : decode cL_law 1571 = .ok (.if_icmp .eq 5, 3) := by decide +kernel
theorem dL_law_1576 : decode cL_law 1576 = .ok (.iload 5, 2) := by decide +kernel
theorem dL_law_1578 : decode cL_law 1578 = .ok (.ifCond .ne 15, 3) := by decide +kernel
theorem dL_law_1593 : decode cL_law 1593 = .ok (.goto 727, 3) := by decide +kernel
theorem dL_law_1596 : decode cL_law 1596 = .ok (.aload_n 1, 1) := by decide +kernel
theorem dL_law_1597 : decode cL_law 1597 = .ok (.aload_n 0, 1) := by decide +kernel
theorem dL_law_1598 : decode cL_law 1598 = .ok (.iload 4, 2) := by decide +kernel
theorem dL_law_1600 : decode cL_law 1600 = .ok (.iconst 1, 1) := by decide +kernel
theorem dL_law_1601 : decode cL_law 1601 = .ok (.iadd, 1) := by decide +kernel
theorem dL_law_1602 : decode cL_law 1602 = .ok (.iaload, 1) := by decide +kernel
theorem dL_law_1603 : decode cL_law 1603 = .ok (.aload_n 3, 1) := by decide +kernel
theorem dL_law_1604 : decode cL_law 1604 = .ok (.invokestatic 193, 3) := by decide +kernel
theorem dL_law_1607 : decode cL_law 1607 = .ok (.istore 5, 2) := by decide +kernel
theorem dL_law_1609 : decode cL_law 1609 = .ok (.aload_n 2, 1) := by decide +kernel
theorem dL_law_1610 : decode cL_law 1610 = .ok (.aload_n 0, 1) := by decide +kernel
theorem dL_law_1611 : decode cL_law 1611 = .ok (.iload 4, 2) := by decide +kernel
theorem dL_law_1613 : decode cL_law 1613 = .ok (.iconst 1, 1) := by decide +kernel
theorem dL_law_1614 : decode cL_law 1614 = .ok (.iadd, 1) := by decide +kernel
theorem dL_law_1615 : decode cL_law 1615 = .ok (.iaload, 1) := by decide +kernel
theorem dL_law_1616 : decode cL_law 1616 = .ok (.invokevirtual 195, 3) := by decide +kernel
theorem dL_law_1619 : decode cL_law 1619 = .ok (.istore 6, 2) := by decide +kernel
theorem dL_law_1621 : decode cL_law 1621 = .ok (.aload_n 2, 1) := by decide +kernel
theorem dL_law_1622 : decode cL_law 1622 = .ok (.invokevirtual 113, 3) := by decide +kernel
theorem dL_law_1625 : decode cL_law 1625 = .ok (.iload 5, 2) := by decide +kernel
theorem dL_law_1627 : decode cL_law 1627 = .ok (.if_icmp .eq 5, 3) := by decide +kernel
theorem dL_law_1632 : decode cL_law 1632 = .ok (.iload 5, 2) := by decide +kernel
theorem dL_law_1634 : decode cL_law 1634 = .ok (.ifCond .ne 15, 3) := by decide +kernel
theorem dL_law_1637 : decode cL_law 1637 = .ok (.aload_n 3, 1) := by decide +kernel
theorem dL_law_1638 : decode cL_law 1638 = .ok (.iconst 0, 1) := by decide +kernel
theorem dL_law_1639 : decode cL_law 1639 = .ok (.laload, 1) := by decide +kernel
theorem dL_law_1640 : decode cL_law 1640 = .ok (.iload 6, 2) := by decide +kernel
theorem dL_law_1642 : decode cL_law 1642 = .ok (.i2l, 1) := by decide +kernel
theorem dL_law_1643 : decode cL_law 1643 = .ok (.lcmp, 1) := by decide +kernel
theorem dL_law_1644 : decode cL_law 1644 = .ok (.ifCond .eq 5, 3) := by decide +kernel
theorem dL_law_1649 : decode cL_law 1649 = .ok (.goto 671, 3) := by decide +kernel
set_option maxHeartbeats 8000000 in
set_option maxRecDepth 100000 in
theorem arm_18 {p : Program} {l : Launch} {e : Env} {s : State} {m : MethodId} {below : List Frame} {meth : Method} {c : Code} {b : Nat} {xs : Nat → Int32} {D : va_G} {K : Nat → ClassId} {sa : Nat × Nat × Nat} {H : Heap} {locs : List Loc} {L : List Nat} {f : Nat → va_E} {Ψ : Nat → Nat} {x m_ o : Nat} {ls : Array Slot} (hls : l.stackTraces = false) (A : LwC p s m meth c b xs) (B : LwW D K sa s H locs L f Ψ x m_ o) (hl : lv_has ls 7 [(0, .ref b), (1, .ref x), (2, .ref m_), (3, .ref o), (4, .int 0)]) : W p l e room_1 s m #[Value.ref b] below meth c H locs 1258 28357 (lw_Z below #[Value.ref b] s) (F0 m 1323 ls []) := by
  obtain ⟨C, hX, hbl, hrt, hlk⟩ := id A
  obtain ⟨w, hT, ⟨hm_x, ht_x⟩, ⟨hm_m, ht_m⟩, ⟨hm_o, ht_o, g0, hf_o⟩, hno_6, hno_7, z4, hno_4⟩ := B
  have hx := C.1
  have hb := C.2.1
  have n0 : (0 : Int32).toInt = 0 := by decide
  have n1 : (1 : Int32).toInt = 1 := by decide
  refine lv_aload_n hx hb dL_law_1323 rfl (lv_at hl 1 rfl) ?_
  refine lv_aload_n hx hb dL_law_1324 rfl (lv_at hl 0 rfl) ?_
  refine lv_iload hx hb dL_law_1325 (lv_at hl 4 rfl) ?_
  refine lv_iconst (v := 1) hx hb dL_law_1327 (by decide) ?_
  refine lv_iadd hx hb dL_law_1328 ?_
  refine lv_topi (fun y1 ey1 => ?_)
  obtain rfl : y1 = 1 := ey1.trans (by decide)
  refine t_sld hx hb hX hbl w (j := 1) (by decide) (vp_in_iff.mpr ⟨by decide, by decide⟩) dL_law_1329 ?_
  refine lv_aload_n hx hb dL_law_1330 rfl (lv_at hl 0 rfl) ?_
  refine lv_iload hx hb dL_law_1331 (lv_at hl 4 rfl) ?_
  refine lv_iconst (v := 2) hx hb dL_law_1333 (by decide) ?_
  refine lv_iadd hx hb dL_law_1334 ?_
  refine lv_topi (fun y2 ey2 => ?_)
  obtain rfl : y2 = 2 := ey2.trans (by decide)
  refine t_sld hx hb hX hbl w (j := 2) (by decide) (vp_in_iff.mpr ⟨by decide, by decide⟩) dL_law_1335 ?_
  refine lv_aload_n hx hb dL_law_1336 rfl (lv_at hl 0 rfl) ?_
  refine lv_iload hx hb dL_law_1337 (lv_at hl 4 rfl) ?_
  refine lv_iconst (v := 3) hx hb dL_law_1339 (by decide) ?_
  refine lv_iadd hx hb dL_law_1340 ?_
  refine lv_topi (fun y3 ey3 => ?_)
  obtain rfl : y3 = 3 := ey3.trans (by decide)
  refine t_sld hx hb hX hbl w (j := 3) (by decide) (vp_in_iff.mpr ⟨by decide, by decide⟩) dL_law_1341 ?_
  refine lv_aload_n hx hb dL_law_1342 rfl (lv_at hl 3 rfl) ?_
  refine t_callH (n := 5) C w (c_L_odds l hls D K _ sa _ L _ Ψ (hT.mono (gof_sub rfl)) x hm_x ht_x (xs 1) (xs 2) (xs 3)  o hm_o ht_o g0 hf_o) gw_1019 gw_1017 gw_1018 gw_0 ⟨by decide, by decide, by decide +kernel⟩ rfl rfl ⟨Nat.le_of_ble_eq_true rfl, Nat.le_of_ble_eq_true rfl⟩ rfl hl.1 rfl (Nat.le_of_ble_eq_true rfl) dL_law_1343 ⟨Nat.le_of_ble_eq_true rfl, Nat.le_of_ble_eq_true rfl⟩ (fun v u H locs hp w => ?_)
  obtain ⟨r1, Ψ2, L2, f2, g, rfl, rfl, hT2, hE2, ht_o2, hf_o2, hal⟩ := hp
  have hnm : ¬ (fun q9 => q9 = o) m_ := fun e9 => by have e9 : m_ = o := e9; rw [e9, ht_o] at ht_m; exact absurd ht_m (by decide)
  have hsp := hE2.sp hm_m hnm
  have ht_m := hsp.2.1.trans ht_m
  have hm_m := hsp.1
  have hm_o := (hE2.1 o hm_o).1
  have hno_7 := hno_7.call hE2 (by decide) (fun b e9 h9 => by have e9 : b = o := e9; rw [e9, ht_o2] at h9; exact absurd h9 (by decide))
  clear hT hno_6 hno_4 hm_x ht_x hf_o ht_o hnm hsp
  have hT := hT2
  have ht_o := ht_o2
  have hf_o := hf_o2
  clear hT2 ht_o2 hf_o2
  refine lv_istore (lv' := [(5, .int r1), (0, .ref b), (1, .ref x), (2, .ref m_), (3, .ref o), (4, .int 0)]) hx hb dL_law_1346 hl (by decide) rfl (fun ls hl => ?_)
  refine lv_aload_n hx hb dL_law_1348 rfl (lv_at hl 3 rfl) ?_
  refine lv_aload_n hx hb dL_law_1349 rfl (lv_at hl 1 rfl) ?_
  refine lv_iload hx hb dL_law_1350 (lv_at hl 5 rfl) ?_
  refine lv_iconst (v := 1) hx hb dL_law_1352 (by decide) ?_
  refine lv_iadd hx hb dL_law_1353 ?_
  refine lv_topi (fun y4 ey4 => ?_)
  obtain rfl : y4 = 1 := ey4.trans (by decide)
  refine t_sld hx hb hX hbl w (j := 1) (by decide) (vp_in_iff.mpr ⟨by decide, by decide⟩) dL_law_1354 ?_
  refine lv_aload_n hx hb dL_law_1355 rfl (lv_at hl 1 rfl) ?_
  refine lv_iload hx hb dL_law_1356 (lv_at hl 5 rfl) ?_
  refine lv_iconst (v := 2) hx hb dL_law_1358 (by decide) ?_
  refine lv_iadd hx hb dL_law_1359 ?_
  refine lv_topi (fun y5 ey5 => ?_)
  obtain rfl : y5 = 2 := ey5.trans (by decide)
  refine t_sld hx hb hX hbl w (j := 2) (by decide) (vp_in_iff.mpr ⟨by decide, by decide⟩) dL_law_1360 ?_
  refine lv_aload_n hx hb dL_law_1361 rfl (lv_at hl 1 rfl) ?_
  refine lv_iload hx hb dL_law_1362 (lv_at hl 5 rfl) ?_
  refine lv_iconst (v := 3) hx hb dL_law_1364 (by decide) ?_
  refine lv_iadd hx hb dL_law_1365 ?_
  refine lv_topi (fun y6 ey6 => ?_)
  obtain rfl : y6 = 3 := ey6.trans (by decide)
  refine t_sld hx hb hX hbl w (j := 3) (by decide) (vp_in_iff.mpr ⟨by decide, by decide⟩) dL_law_1366 ?_
  refine t_callV (n := 3) C w hT hm_m ht_m (by decide) rfl rfl (c_X7_odds l D K _ sa _ L2 _ Ψ2 hT m_ hm_m ht_m (xs 1) (xs 2) (xs 3) (fun b c h1 h2 h3 h4 => (hno_7 b h1 h3).trans (hno_7 c h2 h4).symm)) gw_1589 gw_1586 gw_1587 gw_1588 gw_8 ⟨by decide, by decide, by decide +kernel⟩ rfl rfl ⟨Nat.le_of_ble_eq_true rfl, Nat.le_of_ble_eq_true rfl⟩ rfl hl.1 rfl (Nat.le_of_ble_eq_true rfl) dL_law_1367 ⟨Nat.le_of_ble_eq_true rfl, Nat.le_of_ble_eq_true rfl⟩ (fun v u H locs hp w => ?_)
  obtain ⟨r2, th, f3, rfl, rfl, hT3, hR3, hbl2⟩ := hp
  have hf_o := (hR3 o hm_o ht_o).trans hf_o
  clear hT
  have hT := hT3
  clear hT3
  rcases hal with rfl
  obtain ⟨rfl, rfl⟩ := hbl2
  refine lv_istore (lv' := [(6, .int 0), (5, .int 1), (0, .ref b), (1, .ref x), (2, .ref m_), (3, .ref o), (4, .int 0)]) hx hb dL_law_1370 hl (by decide) rfl (fun ls hl => ?_)
  refine lv_aload_n hx hb dL_law_1372 rfl (lv_at hl 4 rfl) ?_
  refine t_callV (n := 0) C w hT hm_m ht_m (by decide) rfl rfl (c_X7_thrown l D K _ sa _ L2 _ Ψ2 1 hT m_ hm_m ht_m) gw_1332 gw_1329 gw_1330 gw_1331 gw_8 ⟨by decide, by decide, by decide +kernel⟩ rfl rfl ⟨Nat.le_of_ble_eq_true rfl, Nat.le_of_ble_eq_true rfl⟩ rfl hl.1 rfl (Nat.le_of_ble_eq_true rfl) dL_law_1373 ⟨Nat.le_of_ble_eq_true rfl, Nat.le_of_ble_eq_true rfl⟩ (fun v u H locs hp w => ?_)
  obtain ⟨rfl, rfl⟩ := hp
  refine lv_iload hx hb dL_law_1376 (lv_at hl 1 rfl) ?_
  refine lv_icmp_eq (tgt := 1383) hx hb dL_law_1378 (by decide) (fun _ => ?_) (fun c0 => absurd c0 (by decide))
  refine lv_iload hx hb dL_law_1383 (lv_at hl 1 rfl) ?_
  refine lv_if_ne (tgt := 1400) hx hb dL_law_1385 (by decide) (fun _ => ?_) (fun c0 => absurd c0 (by decide))
  refine lv_goto (tgt := 2320) hx hb dL_law_1400 (by decide) ?_
  exact law_end A w (Nat.le_of_ble_eq_true rfl) (Nat.le_of_ble_eq_true rfl) (lv_sub hl [6, 2] rfl)
set_option maxHeartbeats 8000000 in
set_option maxRecDepth 100000 in
theorem arm_19 {p : Program} {l : Launch} {e : Env} {s : State} {m : MethodId} {below : List Frame} {meth : Method} {c : Code} {b : Nat} {xs : Nat → Int32} {D : va_G} {K : Nat → ClassId} {sa : Nat × Nat × Nat} {H : Heap} {locs : List Loc} {L : List Nat} {f : Nat → va_E} {Ψ : Nat → Nat} {x m_ o : Nat} {ls : Array Slot} (hls : l.stackTraces = false) (A : LwC p s m meth c b xs) (B : LwW D K sa s H locs L f Ψ x m_ o) (hl : lv_has ls 7 [(0, .ref b), (1, .ref x), (2, .ref m_), (3, .ref o), (4, .int 0)]) : W p l e room_1 s m #[Value.ref b] below meth c H locs 1258 28357 (lw_Z below #[Value.ref b] s) (F0 m 1403 ls []) := by
  obtain ⟨C, hX, hbl, hrt, hlk⟩ := id A
  obtain ⟨w, hT, ⟨hm_x, ht_x⟩, ⟨hm_m, ht_m⟩, ⟨hm_o, ht_o, g0, hf_o⟩, hno_6, hno_7, z4, hno_4⟩ := B
  have hx := C.1
  have hb := C.2.1
  have n0 : (0 : Int32).toInt = 0 := by decide
  have n1 : (1 : Int32).toInt = 1 := by decide
  refine lv_aload_n hx hb dL_law_1403 rfl (lv_at hl 1 rfl) ?_
  refine lv_aload_n hx hb dL_law_1404 rfl (lv_at hl 0 rfl) ?_
  refine lv_iload hx hb dL_law_1405 (lv_at hl 4 rfl) ?_
  refine lv_iconst (v := 1) hx hb dL_law_1407 (by decide) ?_
  refine lv_iadd hx hb dL_law_1408 ?_
  refine lv_topi (fun y1 ey1 => ?_)
  obtain rfl : y1 = 1 := ey1.trans (by decide)
  refine t_sld hx hb hX hbl w (j := 1) (by decide) (vp_in_iff.mpr ⟨by decide, by decide⟩) dL_law_1409 ?_
  refine lv_aload_n hx hb dL_law_1410 rfl (lv_at hl 3 rfl) ?_
  refine t_callH (n := 3) C w (c_L_weights l hls D K _ sa _ L _ Ψ (hT.mono (gof_sub rfl)) x hm_x ht_x (xs 1)  o hm_o ht_o g0 hf_o) gw_1030 gw_1028 gw_1029 gw_0 ⟨by decide, by decide, by decide +kernel⟩ rfl rfl ⟨Nat.le_of_ble_eq_true rfl, Nat.le_of_ble_eq_true rfl⟩ rfl hl.1 rfl (Nat.le_of_ble_eq_true rfl) dL_law_1411 ⟨Nat.le_of_ble_eq_true rfl, Nat.le_of_ble_eq_true rfl⟩ (fun v u H locs hp w => ?_)
  obtain ⟨r1, Ψ2, L2, f2, g, rfl, rfl, hT2, hE2, ht_o2, hf_o2, hal⟩ := hp
  have hnm : ¬ (fun q9 => q9 = o) m_ := fun e9 => by have e9 : m_ = o := e9; rw [e9, ht_o] at ht_m; exact absurd ht_m (by decide)
  have hsp := hE2.sp hm_m hnm
  have ht_m := hsp.2.1.trans ht_m
  have hm_m := hsp.1
  have hm_o := (hE2.1 o hm_o).1
  have hno_7 := hno_7.call hE2 (by decide) (fun b e9 h9 => by have e9 : b = o := e9; rw [e9, ht_o2] at h9; exact absurd h9 (by decide))
  clear hT hno_6 hno_4 hm_x ht_x hf_o ht_o hnm hsp
  have hT := hT2
  have ht_o := ht_o2
  have hf_o := hf_o2
  clear hT2 ht_o2 hf_o2
  refine lv_istore (lv' := [(5, .int r1), (0, .ref b), (1, .ref x), (2, .ref m_), (3, .ref o), (4, .int 0)]) hx hb dL_law_1414 hl (by decide) rfl (fun ls hl => ?_)
  refine lv_aload_n hx hb dL_law_1416 rfl (lv_at hl 3 rfl) ?_
  refine lv_aload_n hx hb dL_law_1417 rfl (lv_at hl 1 rfl) ?_
  refine lv_iload hx hb dL_law_1418 (lv_at hl 5 rfl) ?_
  refine lv_iconst (v := 1) hx hb dL_law_1420 (by decide) ?_
  refine lv_iadd hx hb dL_law_1421 ?_
  refine lv_topi (fun y2 ey2 => ?_)
  obtain rfl : y2 = 1 := ey2.trans (by decide)
  refine t_sld hx hb hX hbl w (j := 1) (by decide) (vp_in_iff.mpr ⟨by decide, by decide⟩) dL_law_1422 ?_
  refine t_callV (n := 1) C w hT hm_m ht_m (by decide) rfl rfl (c_X7_weights l D K _ sa _ L2 _ Ψ2 hT m_ hm_m ht_m (xs 1) (fun b c h1 h2 h3 h4 => (hno_7 b h1 h3).trans (hno_7 c h2 h4).symm)) gw_1597 gw_1594 gw_1595 gw_1596 gw_8 ⟨by decide, by decide, by decide +kernel⟩ rfl rfl ⟨Nat.le_of_ble_eq_true rfl, Nat.le_of_ble_eq_true rfl⟩ rfl hl.1 rfl (Nat.le_of_ble_eq_true rfl) dL_law_1423 ⟨Nat.le_of_ble_eq_true rfl, Nat.le_of_ble_eq_true rfl⟩ (fun v u H locs hp w => ?_)
  obtain ⟨r2, th, f3, rfl, rfl, hT3, hR3, hbl2⟩ := hp
  have hf_o := (hR3 o hm_o ht_o).trans hf_o
  clear hT
  have hT := hT3
  clear hT3
  rcases hal with rfl
  obtain ⟨rfl, rfl⟩ := hbl2
  refine lv_istore (lv' := [(6, .int 0), (5, .int 1), (0, .ref b), (1, .ref x), (2, .ref m_), (3, .ref o), (4, .int 0)]) hx hb dL_law_1426 hl (by decide) rfl (fun ls hl => ?_)
  refine lv_aload_n hx hb dL_law_1428 rfl (lv_at hl 4 rfl) ?_
  refine t_callV (n := 0) C w hT hm_m ht_m (by decide) rfl rfl (c_X7_thrown l D K _ sa _ L2 _ Ψ2 1 hT m_ hm_m ht_m) gw_1332 gw_1329 gw_1330 gw_1331 gw_8 ⟨by decide, by decide, by decide +kernel⟩ rfl rfl ⟨Nat.le_of_ble_eq_true rfl, Nat.le_of_ble_eq_true rfl⟩ rfl hl.1 rfl (Nat.le_of_ble_eq_true rfl) dL_law_1429 ⟨Nat.le_of_ble_eq_true rfl, Nat.le_of_ble_eq_true rfl⟩ (fun v u H locs hp w => ?_)
  obtain ⟨rfl, rfl⟩ := hp
  refine lv_iload hx hb dL_law_1432 (lv_at hl 1 rfl) ?_
  refine lv_icmp_eq (tgt := 1439) hx hb dL_law_1434 (by decide) (fun _ => ?_) (fun c0 => absurd c0 (by decide))
  refine lv_iload hx hb dL_law_1439 (lv_at hl 1 rfl) ?_
  refine lv_if_ne (tgt := 1456) hx hb dL_law_1441 (by decide) (fun _ => ?_) (fun c0 => absurd c0 (by decide))
  refine lv_goto (tgt := 2320) hx hb dL_law_1456 (by decide) ?_
  exact law_end A w (Nat.le_of_ble_eq_true rfl) (Nat.le_of_ble_eq_true rfl) (lv_sub hl [6, 2] rfl)
set_option maxHeartbeats 8000000 in
set_option maxRecDepth 100000 in
theorem arm_20 {p : Program} {l : Launch} {e : Env} {s : State} {m : MethodId} {below : List Frame} {meth : Method} {c : Code} {b : Nat} {xs : Nat → Int32} {D : va_G} {K : Nat → ClassId} {sa : Nat × Nat × Nat} {H : Heap} {locs : List Loc} {L : List Nat} {f : Nat → va_E} {Ψ : Nat → Nat} {x m_ o : Nat} {ls : Array Slot} (hls : l.stackTraces = false) (A : LwC p s m meth c b xs) (B : LwW D K sa s H locs L f Ψ x m_ o) (hl : lv_has ls 7 [(0, .ref b), (1, .ref x), (2, .ref m_), (3, .ref o), (4, .int 0)]) : W p l e room_1 s m #[Value.ref b] below meth c H locs 1258 28357 (lw_Z below #[Value.ref b] s) (F0 m 1459 ls []) := by
  obtain ⟨C, hX, hbl, hrt, hlk⟩ := id A
  obtain ⟨w, hT, ⟨hm_x, ht_x⟩, ⟨hm_m, ht_m⟩, ⟨hm_o, ht_o, g0, hf_o⟩, hno_6, hno_7, z4, hno_4⟩ := B
  have hx := C.1
  have hb := C.2.1
  have n0 : (0 : Int32).toInt = 0 := by decide
  have n1 : (1 : Int32).toInt = 1 := by decide
  refine lv_aload_n hx hb dL_law_1459 rfl (lv_at hl 1 rfl) ?_
  refine lv_aload_n hx hb dL_law_1460 rfl (lv_at hl 0 rfl) ?_
  refine lv_iload hx hb dL_law_1461 (lv_at hl 4 rfl) ?_
  refine lv_iconst (v := 1) hx hb dL_law_1463 (by decide) ?_
  refine lv_iadd hx hb dL_law_1464 ?_
  refine lv_topi (fun y1 ey1 => ?_)
  obtain rfl : y1 = 1 := ey1.trans (by decide)
  refine t_sld hx hb hX hbl w (j := 1) (by decide) (vp_in_iff.mpr ⟨by decide, by decide⟩) dL_law_1465 ?_
  refine lv_aload_n hx hb dL_law_1466 rfl (lv_at hl 0 rfl) ?_
  refine lv_iload hx hb dL_law_1467 (lv_at hl 4 rfl) ?_
  refine lv_iconst (v := 2) hx hb dL_law_1469 (by decide) ?_
  refine lv_iadd hx hb dL_law_1470 ?_
  refine lv_topi (fun y2 ey2 => ?_)
  obtain rfl : y2 = 2 := ey2.trans (by decide)
  refine t_sld hx hb hX hbl w (j := 2) (by decide) (vp_in_iff.mpr ⟨by decide, by decide⟩) dL_law_1471 ?_
  refine lv_aload_n hx hb dL_law_1472 rfl (lv_at hl 3 rfl) ?_
  refine t_callH (n := 4) C w (c_L_when l hls D K _ sa _ L _ Ψ (hT.mono (gof_sub rfl)) x hm_x ht_x (xs 1) (xs 2)  o hm_o ht_o g0 hf_o) gw_1037 gw_1035 gw_1036 gw_0 ⟨by decide, by decide, by decide +kernel⟩ rfl rfl ⟨Nat.le_of_ble_eq_true rfl, Nat.le_of_ble_eq_true rfl⟩ rfl hl.1 rfl (Nat.le_of_ble_eq_true rfl) dL_law_1473 ⟨Nat.le_of_ble_eq_true rfl, Nat.le_of_ble_eq_true rfl⟩ (fun v u H locs hp w => ?_)
  obtain ⟨r1, Ψ2, L2, f2, g, rfl, rfl, hT2, hE2, ht_o2, hf_o2, hal⟩ := hp
  have hnm : ¬ (fun q9 => q9 = o) m_ := fun e9 => by have e9 : m_ = o := e9; rw [e9, ht_o] at ht_m; exact absurd ht_m (by decide)
  have hsp := hE2.sp hm_m hnm
  have ht_m := hsp.2.1.trans ht_m
  have hm_m := hsp.1
  have hm_o := (hE2.1 o hm_o).1
  have hno_7 := hno_7.call hE2 (by decide) (fun b e9 h9 => by have e9 : b = o := e9; rw [e9, ht_o2] at h9; exact absurd h9 (by decide))
  clear hT hno_6 hno_4 hm_x ht_x hf_o ht_o hnm hsp
  have hT := hT2
  have ht_o := ht_o2
  have hf_o := hf_o2
  clear hT2 ht_o2 hf_o2
  refine lv_istore (lv' := [(5, .int r1), (0, .ref b), (1, .ref x), (2, .ref m_), (3, .ref o), (4, .int 0)]) hx hb dL_law_1476 hl (by decide) rfl (fun ls hl => ?_)
  refine lv_aload_n hx hb dL_law_1478 rfl (lv_at hl 3 rfl) ?_
  refine lv_aload_n hx hb dL_law_1479 rfl (lv_at hl 1 rfl) ?_
  refine lv_iload hx hb dL_law_1480 (lv_at hl 5 rfl) ?_
  refine lv_iconst (v := 1) hx hb dL_law_1482 (by decide) ?_
  refine lv_iadd hx hb dL_law_1483 ?_
  refine lv_topi (fun y3 ey3 => ?_)
  obtain rfl : y3 = 1 := ey3.trans (by decide)
  refine t_sld hx hb hX hbl w (j := 1) (by decide) (vp_in_iff.mpr ⟨by decide, by decide⟩) dL_law_1484 ?_
  refine lv_aload_n hx hb dL_law_1485 rfl (lv_at hl 1 rfl) ?_
  refine lv_iload hx hb dL_law_1486 (lv_at hl 5 rfl) ?_
  refine lv_iconst (v := 2) hx hb dL_law_1488 (by decide) ?_
  refine lv_iadd hx hb dL_law_1489 ?_
  refine lv_topi (fun y4 ey4 => ?_)
  obtain rfl : y4 = 2 := ey4.trans (by decide)
  refine t_sld hx hb hX hbl w (j := 2) (by decide) (vp_in_iff.mpr ⟨by decide, by decide⟩) dL_law_1490 ?_
  refine t_callV (n := 2) C w hT hm_m ht_m (by decide) rfl rfl (c_X7_when l D K _ sa _ L2 _ Ψ2 hT m_ hm_m ht_m (xs 1) (xs 2) (fun b c h1 h2 h3 h4 => (hno_7 b h1 h3).trans (hno_7 c h2 h4).symm)) gw_1601 gw_1598 gw_1599 gw_1600 gw_8 ⟨by decide, by decide, by decide +kernel⟩ rfl rfl ⟨Nat.le_of_ble_eq_true rfl, Nat.le_of_ble_eq_true rfl⟩ rfl hl.1 rfl (Nat.le_of_ble_eq_true rfl) dL_law_1491 ⟨Nat.le_of_ble_eq_true rfl, Nat.le_of_ble_eq_true rfl⟩ (fun v u H locs hp w => ?_)
  obtain ⟨r2, th, f3, rfl, rfl, hT3, hR3, hbl2⟩ := hp
  have hf_o := (hR3 o hm_o ht_o).trans hf_o
  clear hT
  have hT := hT3
  clear hT3
  rcases hal with ⟨rfl, ha0⟩ | ⟨rfl, ha0, ha1⟩
  ·
    rcases hbl2 with ⟨rfl, rfl, hb0⟩ | ⟨rfl, rfl, hb0, hb1⟩
    ·
      refine lv_istore (lv' := [(6, .int 0), (5, .int 1), (0, .ref b), (1, .ref x), (2, .ref m_), (3, .ref o), (4, .int 0)]) hx hb dL_law_1494 hl (by decide) rfl (fun ls hl => ?_)
      refine lv_aload_n hx hb dL_law_1496 rfl (lv_at hl 4 rfl) ?_
      refine t_callV (n := 0) C w hT hm_m ht_m (by decide) rfl rfl (c_X7_thrown l D K _ sa _ L2 _ Ψ2 1 hT m_ hm_m ht_m) gw_1332 gw_1329 gw_1330 gw_1331 gw_8 ⟨by decide, by decide, by decide +kernel⟩ rfl rfl ⟨Nat.le_of_ble_eq_true rfl, Nat.le_of_ble_eq_true rfl⟩ rfl hl.1 rfl (Nat.le_of_ble_eq_true rfl) dL_law_1497 ⟨Nat.le_of_ble_eq_true rfl, Nat.le_of_ble_eq_true rfl⟩ (fun v u H locs hp w => ?_)
      obtain ⟨rfl, rfl⟩ := hp
      refine lv_iload hx hb dL_law_1500 (lv_at hl 1 rfl) ?_
      refine lv_icmp_eq (tgt := 1507) hx hb dL_law_1502 (by decide) (fun _ => ?_) (fun c0 => absurd c0 (by decide))
      refine lv_iload hx hb dL_law_1507 (lv_at hl 1 rfl) ?_
      refine lv_if_ne (tgt := 1524) hx hb dL_law_1509 (by decide) (fun _ => ?_) (fun c0 => absurd c0 (by decide))
      refine lv_goto (tgt := 2320) hx hb dL_law_1524 (by decide) ?_
      exact law_end A w (Nat.le_of_ble_eq_true rfl) (Nat.le_of_ble_eq_true rfl) (lv_sub hl [6, 2] rfl)
    ·
      exfalso
      omega
  ·
    rcases hbl2 with ⟨rfl, rfl, hb0⟩ | ⟨rfl, rfl, hb0, hb1⟩
    ·
      exfalso
      omega
    ·
      refine lv_istore (lv' := [(6, .int 0), (5, .int 2), (0, .ref b), (1, .ref x), (2, .ref m_), (3, .ref o), (4, .int 0)]) hx hb dL_law_1494 hl (by decide) rfl (fun ls hl => ?_)
      refine lv_aload_n hx hb dL_law_1496 rfl (lv_at hl 4 rfl) ?_
      refine t_callV (n := 0) C w hT hm_m ht_m (by decide) rfl rfl (c_X7_thrown l D K _ sa _ L2 _ Ψ2 2 hT m_ hm_m ht_m) gw_1332 gw_1329 gw_1330 gw_1331 gw_8 ⟨by decide, by decide, by decide +kernel⟩ rfl rfl ⟨Nat.le_of_ble_eq_true rfl, Nat.le_of_ble_eq_true rfl⟩ rfl hl.1 rfl (Nat.le_of_ble_eq_true rfl) dL_law_1497 ⟨Nat.le_of_ble_eq_true rfl, Nat.le_of_ble_eq_true rfl⟩ (fun v u H locs hp w => ?_)
      obtain ⟨rfl, rfl⟩ := hp
      refine lv_iload hx hb dL_law_1500 (lv_at hl 1 rfl) ?_
      refine lv_icmp_eq (tgt := 1507) hx hb dL_law_1502 (by decide) (fun _ => ?_) (fun c0 => absurd c0 (by decide))
      refine lv_iload hx hb dL_law_1507 (lv_at hl 1 rfl) ?_
      refine lv_if_ne (tgt := 1524) hx hb dL_law_1509 (by decide) (fun _ => ?_) (fun c0 => absurd c0 (by decide))
      refine lv_goto (tgt := 2320) hx hb dL_law_1524 (by decide) ?_
      exact law_end A w (Nat.le_of_ble_eq_true rfl) (Nat.le_of_ble_eq_true rfl) (lv_sub hl [6, 2] rfl)
set_option maxHeartbeats 8000000 in
set_option maxRecDepth 100000 in
theorem arm_21 {p : Program} {l : Launch} {e : Env} {s : State} {m : MethodId} {below : List Frame} {meth : Method} {c : Code} {b : Nat} {xs : Nat → Int32} {D : va_G} {K : Nat → ClassId} {sa : Nat × Nat × Nat} {H : Heap} {locs : List Loc} {L : List Nat} {f : Nat → va_E} {Ψ : Nat → Nat} {x m_ o : Nat} {ls : Array Slot} (hls : l.stackTraces = false) (A : LwC p s m meth c b xs) (B : LwW D K sa s H locs L f Ψ x m_ o) (hl : lv_has ls 7 [(0, .ref b), (1, .ref x), (2, .ref m_), (3, .ref o), (4, .int 0)]) : W p l e room_1 s m #[Value.ref b] below meth c H locs 1258 28357 (lw_Z below #[Value.ref b] s) (F0 m 1527 ls []) := by
  obtain ⟨C, hX, hbl, hrt, hlk⟩ := id A
  obtain ⟨w, hT, ⟨hm_x, ht_x⟩, ⟨hm_m, ht_m⟩, ⟨hm_o, ht_o, g0, hf_o⟩, hno_6, hno_7, z4, hno_4⟩ := B
  have hx := C.1
  have hb := C.2.1
  have n0 : (0 : Int32).toInt = 0 := by decide
  have n1 : (1 : Int32).toInt = 1 := by decide
  refine lv_aload_n hx hb dL_law_1527 rfl (lv_at hl 1 rfl) ?_
  refine t_callV (n := 0) C w hT hm_x ht_x (by decide) rfl rfl (c_X6_fitting l D K _ sa _ L _ Ψ (hT.mono (gof_sub rfl)) x hm_x ht_x  ) gw_475 gw_472 gw_473 gw_474 gw_1 ⟨by decide, by decide, by decide +kernel⟩ rfl rfl ⟨Nat.le_of_ble_eq_true rfl, Nat.le_of_ble_eq_true rfl⟩ rfl hl.1 rfl (Nat.le_of_ble_eq_true rfl) dL_law_1528 ⟨Nat.le_of_ble_eq_true rfl, Nat.le_of_ble_eq_true rfl⟩ (fun v u H locs hp w => ?_)
  obtain ⟨r1, rfl, rfl, hal⟩ := hp
  have hT := hT.mono (gof_sub (l2 := gM0) rfl)
  refine lv_aload_n hx hb dL_law_1531 rfl (lv_at hl 2 rfl) ?_
  refine t_callV (n := 0) C w hT hm_m ht_m (by decide) rfl rfl (c_X7_fitting l D K _ sa _ L _ Ψ hT m_ hm_m ht_m  (fun b c h1 h2 h3 h4 => (hno_7 b h1 h3).trans (hno_7 c h2 h4).symm)) gw_1605 gw_1602 gw_1603 gw_1604 gw_8 ⟨by decide, by decide, by decide +kernel⟩ rfl rfl ⟨Nat.le_of_ble_eq_true rfl, Nat.le_of_ble_eq_true rfl⟩ rfl hl.1 rfl (Nat.le_of_ble_eq_true rfl) dL_law_1532 ⟨Nat.le_of_ble_eq_true rfl, Nat.le_of_ble_eq_true rfl⟩ (fun v u H locs hp w => ?_)
  obtain ⟨r2, th, f3, rfl, rfl, hT3, hR3, hbl2⟩ := hp
  clear hT
  have hT := hT3
  clear hT3
  rcases hal with rfl
  obtain ⟨rfl, rfl⟩ := hbl2
  refine lv_icmp_eq (tgt := 2320) hx hb dL_law_1535 (by decide) (fun _ => ?_) (fun c0 => absurd c0 (by decide))
  exact law_end A w (Nat.le_of_ble_eq_true rfl) (Nat.le_of_ble_eq_true rfl) (lv_sub hl [4, 0] rfl)
set_option maxHeartbeats 8000000 in
set_option maxRecDepth 100000 in
theorem arm_22 {p : Program} {l : Launch} {e : Env} {s : State} {m : MethodId} {below : List Frame} {meth : Method} {c : Code} {b : Nat} {xs : Nat → Int32} {D : va_G} {K : Nat → ClassId} {sa : Nat × Nat × Nat} {H : Heap} {locs : List Loc} {L : List Nat} {f : Nat → va_E} {Ψ : Nat → Nat} {x m_ o : Nat} {ls : Array Slot} (hls : l.stackTraces = false) (A : LwC p s m meth c b xs) (B : LwW D K sa s H locs L f Ψ x m_ o) (hl : lv_has ls 7 [(0, .ref b), (1, .ref x), (2, .ref m_), (3, .ref o), (4, .int 0)]) : W p l e room_1 s m #[Value.ref b] below meth c H locs 1258 28357 (lw_Z below #[Value.ref b] s) (F0 m 1540 ls []) := by
  obtain ⟨C, hX, hbl, hrt, hlk⟩ := id A
  obtain ⟨w, hT, ⟨hm_x, ht_x⟩, ⟨hm_m, ht_m⟩, ⟨hm_o, ht_o, g0, hf_o⟩, hno_6, hno_7, z4, hno_4⟩ := B
  have hx := C.1
  have hb := C.2.1
  have n0 : (0 : Int32).toInt = 0 := by decide
  have n1 : (1 : Int32).toInt = 1 := by decide
  refine lv_aload_n hx hb dL_law_1540 rfl (lv_at hl 1 rfl) ?_
  refine lv_aload_n hx hb dL_law_1541 rfl (lv_at hl 0 rfl) ?_
  refine lv_iload hx hb dL_law_1542 (lv_at hl 4 rfl) ?_
  refine lv_iconst (v := 1) hx hb dL_law_1544 (by decide) ?_
  refine lv_iadd hx hb dL_law_1545 ?_
  refine lv_topi (fun y1 ey1 => ?_)
  obtain rfl : y1 = 1 := ey1.trans (by decide)
  refine t_sld hx hb hX hbl w (j := 1) (by decide) (vp_in_iff.mpr ⟨by decide, by decide⟩) dL_law_1546 ?_
  refine lv_aload_n hx hb dL_law_1547 rfl (lv_at hl 3 rfl) ?_
  refine t_callH (n := 3) C w (c_L_strange l hls D K _ sa _ L _ Ψ (hT.mono (gof_sub rfl)) x hm_x ht_x (xs 1)  o hm_o ht_o g0 hf_o) gw_1044 gw_1042 gw_1043 gw_0 ⟨by decide, by decide, by decide +kernel⟩ rfl rfl ⟨Nat.le_of_ble_eq_true rfl, Nat.le_of_ble_eq_true rfl⟩ rfl hl.1 rfl (Nat.le_of_ble_eq_true rfl) dL_law_1548 ⟨Nat.le_of_ble_eq_true rfl, Nat.le_of_ble_eq_true rfl⟩ (fun v u H locs hp w => ?_)
  obtain ⟨r1, Ψ2, L2, f2, g, rfl, rfl, hT2, hE2, ht_o2, hf_o2, hal⟩ := hp
  have hnm : ¬ (fun q9 => q9 = o) m_ := fun e9 => by have e9 : m_ = o := e9; rw [e9, ht_o] at ht_m; exact absurd ht_m (by decide)
  have hsp := hE2.sp hm_m hnm
  have ht_m := hsp.2.1.trans ht_m
  have hm_m := hsp.1
  have hm_o := (hE2.1 o hm_o).1
  have hno_7 := hno_7.call hE2 (by decide) (fun b e9 h9 => by have e9 : b = o := e9; rw [e9, ht_o2] at h9; exact absurd h9 (by decide))
  clear hT hno_6 hno_4 hm_x ht_x hf_o ht_o hnm hsp
  have hT := hT2
  have ht_o := ht_o2
  have hf_o := hf_o2
  clear hT2 ht_o2 hf_o2
  refine lv_istore (lv' := [(5, .int r1), (0, .ref b), (1, .ref x), (2, .ref m_), (3, .ref o), (4, .int 0)]) hx hb dL_law_1551 hl (by decide) rfl (fun ls hl => ?_)
  refine lv_aload_n hx hb dL_law_1553 rfl (lv_at hl 3 rfl) ?_
  refine lv_aload_n hx hb dL_law_1554 rfl (lv_at hl 1 rfl) ?_
  refine lv_iload hx hb dL_law_1555 (lv_at hl 5 rfl) ?_
  refine lv_iconst (v := 1) hx hb dL_law_1557 (by decide) ?_
  refine lv_iadd hx hb dL_law_1558 ?_
  refine lv_topi (fun y2 ey2 => ?_)
  obtain rfl : y2 = 1 := ey2.trans (by decide)
  refine t_sld hx hb hX hbl w (j := 1) (by decide) (vp_in_iff.mpr ⟨by decide, by decide⟩) dL_law_1559 ?_
  refine t_callV (n := 1) C w hT hm_m ht_m (by decide) rfl rfl (c_X7_strange l D K _ sa _ L2 _ Ψ2 hT m_ hm_m ht_m (xs 1) (fun b c h1 h2 h3 h4 => (hno_7 b h1 h3).trans (hno_7 c h2 h4).symm)) gw_1617 gw_1614 gw_1615 gw_1616 gw_8 ⟨by decide, by decide, by decide +kernel⟩ rfl rfl ⟨Nat.le_of_ble_eq_true rfl, Nat.le_of_ble_eq_true rfl⟩ rfl hl.1 rfl (Nat.le_of_ble_eq_true rfl) dL_law_1560 ⟨Nat.le_of_ble_eq_true rfl, Nat.le_of_ble_eq_true rfl⟩ (fun v u H locs hp w => ?_)
  obtain ⟨r2, th, f3, rfl, rfl, hT3, hR3, hbl2⟩ := hp
  have hf_o := (hR3 o hm_o ht_o).trans hf_o
  clear hT
  have hT := hT3
  clear hT3
  rcases hal with rfl
  obtain ⟨rfl, rfl⟩ := hbl2
  refine lv_istore (lv' := [(6, .int 0), (5, .int 1), (0, .ref b), (1, .ref x), (2, .ref m_), (3, .ref o), (4, .int 0)]) hx hb dL_law_1563 hl (by decide) rfl (fun ls hl => ?_)
  refine lv_aload_n hx hb dL_law_1565 rfl (lv_at hl 4 rfl) ?_
  refine t_callV (n := 0) C w hT hm_m ht_m (by decide) rfl rfl (c_X7_thrown l D K _ sa _ L2 _ Ψ2 1 hT m_ hm_m ht_m) gw_1332 gw_1329 gw_1330 gw_1331 gw_8 ⟨by decide, by decide, by decide +kernel⟩ rfl rfl ⟨Nat.le_of_ble_eq_true rfl, Nat.le_of_ble_eq_true rfl⟩ rfl hl.1 rfl (Nat.le_of_ble_eq_true rfl) dL_law_1566 ⟨Nat.le_of_ble_eq_true rfl, Nat.le_of_ble_eq_true rfl⟩ (fun v u H locs hp w => ?_)
  obtain ⟨rfl, rfl⟩ := hp
  refine lv_iload hx hb dL_law_1569 (lv_at hl 1 rfl) ?_
  refine lv_icmp_eq (tgt := 1576) hx hb dL_law_1571 (by decide) (fun _ => ?_) (fun c0 => absurd c0 (by decide))
  refine lv_iload hx hb dL_law_1576 (lv_at hl 1 rfl) ?_
  refine lv_if_ne (tgt := 1593) hx hb dL_law_1578 (by decide) (fun _ => ?_) (fun c0 => absurd c0 (by decide))
  refine lv_goto (tgt := 2320) hx hb dL_law_1593 (by decide) ?_
  exact law_end A w (Nat.le_of_ble_eq_true rfl) (Nat.le_of_ble_eq_true rfl) (lv_sub hl [6, 2] rfl)
set_option maxHeartbeats 8000000 in
set_option maxRecDepth 100000 in
theorem arm_23 {p : Program} {l : Launch} {e : Env} {s : State} {m : MethodId} {below : List Frame} {meth : Method} {c : Code} {b : Nat} {xs : Nat → Int32} {D : va_G} {K : Nat → ClassId} {sa : Nat × Nat × Nat} {H : Heap} {locs : List Loc} {L : List Nat} {f : Nat → va_E} {Ψ : Nat → Nat} {x m_ o : Nat} {ls : Array Slot} (hls : l.stackTraces = false) (A : LwC p s m meth c b xs) (B : LwW D K sa s H locs L f Ψ x m_ o) (hl : lv_has ls 7 [(0, .ref b), (1, .ref x), (2, .ref m_), (3, .ref o), (4, .int 0)]) : W p l e room_1 s m #[Value.ref b] below meth c H locs 1258 28357 (lw_Z below #[Value.ref b] s) (F0 m 1596 ls []) := by
  obtain ⟨C, hX, hbl, hrt, hlk⟩ := id A
  obtain ⟨w, hT, ⟨hm_x, ht_x⟩, ⟨hm_m, ht_m⟩, ⟨hm_o, ht_o, g0, hf_o⟩, hno_6, hno_7, z4, hno_4⟩ := B
  have hx := C.1
  have hb := C.2.1
  have n0 : (0 : Int32).toInt = 0 := by decide
  have n1 : (1 : Int32).toInt = 1 := by decide
  refine lv_aload_n hx hb dL_law_1596 rfl (lv_at hl 1 rfl) ?_
  refine lv_aload_n hx hb dL_law_1597 rfl (lv_at hl 0 rfl) ?_
  refine lv_iload hx hb dL_law_1598 (lv_at hl 4 rfl) ?_
  refine lv_iconst (v := 1) hx hb dL_law_1600 (by decide) ?_
  refine lv_iadd hx hb dL_law_1601 ?_
  refine lv_topi (fun y1 ey1 => ?_)
  obtain rfl : y1 = 1 := ey1.trans (by decide)
  refine t_sld hx hb hX hbl w (j := 1) (by decide) (vp_in_iff.mpr ⟨by decide, by decide⟩) dL_law_1602 ?_
  refine lv_aload_n hx hb dL_law_1603 rfl (lv_at hl 3 rfl) ?_
  refine t_callH (n := 3) C w (c_L_guess l hls D K _ sa _ L _ Ψ (hT.mono (gof_sub rfl)) x hm_x ht_x (xs 1)  o hm_o ht_o g0 hf_o) gw_1051 gw_1049 gw_1050 gw_0 ⟨by decide, by decide, by decide +kernel⟩ rfl rfl ⟨Nat.le_of_ble_eq_true rfl, Nat.le_of_ble_eq_true rfl⟩ rfl hl.1 rfl (Nat.le_of_ble_eq_true rfl) dL_law_1604 ⟨Nat.le_of_ble_eq_true rfl, Nat.le_of_ble_eq_true rfl⟩ (fun v u H locs hp w => ?_)
  obtain ⟨r1, Ψ2, L2, f2, g, rfl, rfl, hT2, hE2, ht_o2, hf_o2, hal⟩ := hp
  have hnm : ¬ (fun q9 => q9 = o) m_ := fun e9 => by have e9 : m_ = o := e9; rw [e9, ht_o] at ht_m; exact absurd ht_m (by decide)
  have hsp := hE2.sp hm_m hnm
  have ht_m := hsp.2.1.trans ht_m
  have hm_m := hsp.1
  have hm_o := (hE2.1 o hm_o).1
  have hno_7 := hno_7.call hE2 (by decide) (fun b e9 h9 => by have e9 : b = o := e9; rw [e9, ht_o2] at h9; exact absurd h9 (by decide))
  clear hT hno_6 hno_4 hm_x ht_x hf_o ht_o hnm hsp
  have hT := hT2
  have ht_o := ht_o2
  have hf_o := hf_o2
  clear hT2 ht_o2 hf_o2
  refine lv_istore (lv' := [(5, .int r1), (0, .ref b), (1, .ref x), (2, .ref m_), (3, .ref o), (4, .int 0)]) hx hb dL_law_1607 hl (by decide) rfl (fun ls hl => ?_)
  refine lv_aload_n hx hb dL_law_1609 rfl (lv_at hl 3 rfl) ?_
  refine lv_aload_n hx hb dL_law_1610 rfl (lv_at hl 1 rfl) ?_
  refine lv_iload hx hb dL_law_1611 (lv_at hl 5 rfl) ?_
  refine lv_iconst (v := 1) hx hb dL_law_1613 (by decide) ?_
  refine lv_iadd hx hb dL_law_1614 ?_
  refine lv_topi (fun y2 ey2 => ?_)
  obtain rfl : y2 = 1 := ey2.trans (by decide)
  refine t_sld hx hb hX hbl w (j := 1) (by decide) (vp_in_iff.mpr ⟨by decide, by decide⟩) dL_law_1615 ?_
  refine t_callV (n := 1) C w hT hm_m ht_m (by decide) rfl rfl (c_X7_guess l D K _ sa _ L2 _ Ψ2 hT m_ hm_m ht_m (xs 1) (fun b c h1 h2 h3 h4 => (hno_7 b h1 h3).trans (hno_7 c h2 h4).symm)) gw_1621 gw_1618 gw_1619 gw_1620 gw_8 ⟨by decide, by decide, by decide +kernel⟩ rfl rfl ⟨Nat.le_of_ble_eq_true rfl, Nat.le_of_ble_eq_true rfl⟩ rfl hl.1 rfl (Nat.le_of_ble_eq_true rfl) dL_law_1616 ⟨Nat.le_of_ble_eq_true rfl, Nat.le_of_ble_eq_true rfl⟩ (fun v u H locs hp w => ?_)
  obtain ⟨r2, th, f3, rfl, rfl, hT3, hR3, hbl2⟩ := hp
  have hf_o := (hR3 o hm_o ht_o).trans hf_o
  clear hT
  have hT := hT3
  clear hT3
  rcases hal with ⟨rfl, v1, hg, ⟨rfl, ha0, ha1⟩⟩ | ⟨rfl, ha0⟩
  ·
    rcases hbl2 with ⟨rfl, rfl, hb0⟩ | ⟨rfl, rfl, hb0, hb1⟩
    ·
      exfalso
      omega
    ·
      refine lv_istore (lv' := [(6, .int 0), (5, .int 0), (0, .ref b), (1, .ref x), (2, .ref m_), (3, .ref o), (4, .int 0)]) hx hb dL_law_1619 hl (by decide) rfl (fun ls hl => ?_)
      refine lv_aload_n hx hb dL_law_1621 rfl (lv_at hl 4 rfl) ?_
      refine t_callV (n := 0) C w hT hm_m ht_m (by decide) rfl rfl (c_X7_thrown l D K _ sa _ L2 _ Ψ2 0 hT m_ hm_m ht_m) gw_1332 gw_1329 gw_1330 gw_1331 gw_8 ⟨by decide, by decide, by decide +kernel⟩ rfl rfl ⟨Nat.le_of_ble_eq_true rfl, Nat.le_of_ble_eq_true rfl⟩ rfl hl.1 rfl (Nat.le_of_ble_eq_true rfl) dL_law_1622 ⟨Nat.le_of_ble_eq_true rfl, Nat.le_of_ble_eq_true rfl⟩ (fun v u H locs hp w => ?_)
      obtain ⟨rfl, rfl⟩ := hp
      refine lv_iload hx hb dL_law_1625 (lv_at hl 1 rfl) ?_
      refine lv_icmp_eq (tgt := 1632) hx hb dL_law_1627 (by decide) (fun _ => ?_) (fun c0 => absurd c0 (by decide))
      refine lv_iload hx hb dL_law_1632 (lv_at hl 1 rfl) ?_
      refine lv_if_ne (tgt := 1649) hx hb dL_law_1634 (by decide) (fun c0 => absurd c0 (by decide)) (fun _ => ?_)
      refine lv_aload_n hx hb dL_law_1637 rfl (lv_at hl 5 rfl) ?_
      refine lv_iconst (v := 0) hx hb dL_law_1638 (by decide) ?_
      refine t_laldR C w hm_o hf_o hg dL_law_1639 ?_
      refine lv_iload hx hb dL_law_1640 (lv_at hl 0 rfl) ?_
      refine lv_i2l (v := (0 : Int32).toInt64) hx hb dL_law_1642 rfl ?_
      refine W.lcmp hx hb dL_law_1643 ?_
      refine lv_topi (fun y3 ey3 => ?_)
      obtain rfl : y3 = 0 := ey3.trans (lg_cmp_self _)
      refine lv_if_eq (tgt := 1649) hx hb dL_law_1644 (by decide) (fun _ => ?_) (fun c0 => absurd c0 (by decide))
      refine lv_goto (tgt := 2320) hx hb dL_law_1649 (by decide) ?_
      exact law_end A w (Nat.le_of_ble_eq_true rfl) (Nat.le_of_ble_eq_true rfl) (lv_sub hl [6, 2] rfl)
  ·
    rcases hbl2 with ⟨rfl, rfl, hb0⟩ | ⟨rfl, rfl, hb0, hb1⟩
    ·
      refine lv_istore (lv' := [(6, .int 0), (5, .int 1), (0, .ref b), (1, .ref x), (2, .ref m_), (3, .ref o), (4, .int 0)]) hx hb dL_law_1619 hl (by decide) rfl (fun ls hl => ?_)
      refine lv_aload_n hx hb dL_law_1621 rfl (lv_at hl 4 rfl) ?_
      refine t_callV (n := 0) C w hT hm_m ht_m (by decide) rfl rfl (c_X7_thrown l D K _ sa _ L2 _ Ψ2 1 hT m_ hm_m ht_m) gw_1332 gw_1329 gw_1330 gw_1331 gw_8 ⟨by decide, by decide, by decide +kernel⟩ rfl rfl ⟨Nat.le_of_ble_eq_true rfl, Nat.le_of_ble_eq_true rfl⟩ rfl hl.1 rfl (Nat.le_of_ble_eq_true rfl) dL_law_1622 ⟨Nat.le_of_ble_eq_true rfl, Nat.le_of_ble_eq_true rfl⟩ (fun v u H locs hp w => ?_)
      obtain ⟨rfl, rfl⟩ := hp
      refine lv_iload hx hb dL_law_1625 (lv_at hl 1 rfl) ?_
      refine lv_icmp_eq (tgt := 1632) hx hb dL_law_1627 (by decide) (fun _ => ?_) (fun c0 => absurd c0 (by decide))
      refine lv_iload hx hb dL_law_1632 (lv_at hl 1 rfl) ?_
      refine lv_if_ne (tgt := 1649) hx hb dL_law_1634 (by decide) (fun _ => ?_) (fun c0 => absurd c0 (by decide))
      refine lv_goto (tgt := 2320) hx hb dL_law_1649 (by decide) ?_
      exact law_end A w (Nat.le_of_ble_eq_true rfl) (Nat.le_of_ble_eq_true rfl) (lv_sub hl [6, 2] rfl)
    ·
      exfalso
      omega
