/-! the law: the cases of its switch, 3 of 4 -/
section LAWK
variable {g : GT} {nm : String} {hh : List (Nat × Nat × Nat × Nat)} {S : PS} {kc ks : Nat} {Q : PO → PS → Prop} {x b n : Nat} {xs : Nat → Int32} {i : Int}
theorem K_append (hS : SJ g b n xs) (h0 : 0 ≤ i) (hi : i + 6 ≤ n) (hW : WJ S x) (kk : ∀ S' : PS, WJ S' x → PW g cL_law (iL_law nm hh) 2986 (lL b x i) [] S' kc ks Q) : PW g cL_law (iL_law nm hh) 1286 (lL b x i) [] S (kc + 12) (ks + 60) Q := by
  obtain ⟨a, H, nx, ct, fd, ea, th, tx, kp, bf, hX, hI, hf, hJ, hK, hB, hF⟩ := hW
  refine r_aload_n dL_law_1286 (i := 1) rfl rfl ?_
  refine r_arg dL_law_1287 dL_law_1288 dL_law_1290 dL_law_1291 dL_law_1292 hS rfl rfl h0 (by omega) hi ?_
  refine r_arg dL_law_1293 dL_law_1294 dL_law_1296 dL_law_1297 dL_law_1298 hS rfl rfl h0 (by omega) hi ?_
  refine r_aload_n dL_law_1299 (i := 3) rfl rfl ?_
  have c1 := L1_append (g := g) (mc := 1) (ms := 6) (s := sA xs (i + 1)) (v := sA xs (i + 2)) hX hI hJ hF hf sA_ri sA_ri (Nat.le_refl _) (Nat.le_refl _) (k9_append (s := sA xs (i + 1)) (v := sA xs (i + 2)))
  refine r_invW dL_law_1300 c1 (fun E S' h => by cases h.1) mq_L_append ml_L_208 ⟨Nat.le_of_ble_eq_true rfl, Nat.le_of_ble_eq_true rfl⟩ rfl rfl (Nat.le_of_ble_eq_true rfl) (kc' := kc) (ks' := ks) (by show 1 + kc ≤ kc + 12; omega) (by show 6 + ks ≤ ks + 60; omega) (fun o S1 hc => ?_)
  obtain ⟨e1, hk9, hJ1, hF1, -, -⟩ := id hc
  cases e1
  refine r_istore (x := _) dL_law_1303 rfl (Nat.le_of_ble_eq_true rfl) ?_
  refine r_aload_n dL_law_1305 (i := 2) rfl rfl ?_
  refine r_arg dL_law_1306 dL_law_1307 dL_law_1309 dL_law_1310 dL_law_1311 hS rfl rfl h0 (by omega) hi ?_
  refine r_arg dL_law_1312 dL_law_1313 dL_law_1315 dL_law_1316 dL_law_1317 hS rfl rfl h0 (by omega) hi ?_
  have c2 := M1_append (g := g) (mc := 0) (ms := 0) (s := sA xs (i + 1)) (v := sA xs (i + 2)) hI hX.2.2.2.1.2.2 hJ1 sA_ri sA_ri
  obtain ⟨sz, at', be, ki, wr, wa, nu, bs, bw, bt', hm⟩ := hJ1.1
  refine r_invV dL_law_1318 c2 mq_X10_append ml_L_210 ⟨Nat.le_of_ble_eq_true rfl, Nat.le_of_ble_eq_true rfl⟩ hm rfl rfl rfl (Nat.le_of_ble_eq_true rfl) (kc' := kc) (ks' := ks) (by show 0 + kc ≤ kc; omega) (by show 0 + ks ≤ ks; omega) (fun E S2 h => by obtain ⟨r, h1, h2⟩ := h; cases h1) (fun o2 S2 hq => ?_)
  obtain ⟨r, h1, h2⟩ := id hq
  cases h1
  have hE := e_C hX.2.2.2.1.2.1 hX.2.2.2.1.2.2 hI (fun h => ia_app hI h) hf hK hB hc hq
  exact t_I dL_law_1321 dL_law_1323 dL_law_1324 dL_law_1327 dL_law_1329 dL_law_1334 dL_law_1336 dL_law_1339 dL_law_1340 dL_law_1341 dL_law_1342 dL_law_1344 dL_law_1345 dL_law_1346 dL_law_1351 (by decide) hE (kk _ hE.1)
theorem K_cut (hS : SJ g b n xs) (h0 : 0 ≤ i) (hi : i + 6 ≤ n) (hW : WJ S x) (kk : ∀ S' : PS, WJ S' x → PW g cL_law (iL_law nm hh) 2986 (lL b x i) [] S' kc ks Q) : PW g cL_law (iL_law nm hh) 1354 (lL b x i) [] S (kc + 12) (ks + 60) Q := by
  obtain ⟨a, H, nx, ct, fd, ea, th, tx, kp, bf, hX, hI, hf, hJ, hK, hB, hF⟩ := hW
  refine r_aload_n dL_law_1354 (i := 1) rfl rfl ?_
  refine r_arg dL_law_1355 dL_law_1356 dL_law_1358 dL_law_1359 dL_law_1360 hS rfl rfl h0 (by omega) hi ?_
  refine r_arg dL_law_1361 dL_law_1362 dL_law_1364 dL_law_1365 dL_law_1366 hS rfl rfl h0 (by omega) hi ?_
  refine r_aload_n dL_law_1367 (i := 3) rfl rfl ?_
  have c1 := L1_cut (g := g) (mc := 1) (ms := 6) (s := sA xs (i + 1)) (len := sA xs (i + 2)) hX hI hJ hF hf sA_ri sA_ri (Nat.le_refl _) (Nat.le_refl _) (k9_cut (s := sA xs (i + 1)) (len := sA xs (i + 2)))
  refine r_invW dL_law_1368 c1 (fun E S' h => by cases h.1) mq_L_cut ml_L_211 ⟨Nat.le_of_ble_eq_true rfl, Nat.le_of_ble_eq_true rfl⟩ rfl rfl (Nat.le_of_ble_eq_true rfl) (kc' := kc) (ks' := ks) (by show 1 + kc ≤ kc + 12; omega) (by show 6 + ks ≤ ks + 60; omega) (fun o S1 hc => ?_)
  obtain ⟨e1, hk9, hJ1, hF1, -, -⟩ := id hc
  cases e1
  refine r_istore (x := _) dL_law_1371 rfl (Nat.le_of_ble_eq_true rfl) ?_
  refine r_aload_n dL_law_1373 (i := 2) rfl rfl ?_
  refine r_arg dL_law_1374 dL_law_1375 dL_law_1377 dL_law_1378 dL_law_1379 hS rfl rfl h0 (by omega) hi ?_
  refine r_arg dL_law_1380 dL_law_1381 dL_law_1383 dL_law_1384 dL_law_1385 hS rfl rfl h0 (by omega) hi ?_
  have c2 := M1_cut (g := g) (mc := 0) (ms := 0) (s := sA xs (i + 1)) (len := sA xs (i + 2)) hI hX.2.2.2.1.2.2 hJ1 sA_ri sA_ri
  obtain ⟨sz, at', be, ki, wr, wa, nu, bs, bw, bt', hm⟩ := hJ1.1
  refine r_invV dL_law_1386 c2 mq_X10_cut ml_L_213 ⟨Nat.le_of_ble_eq_true rfl, Nat.le_of_ble_eq_true rfl⟩ hm rfl rfl rfl (Nat.le_of_ble_eq_true rfl) (kc' := kc) (ks' := ks) (by show 0 + kc ≤ kc; omega) (by show 0 + ks ≤ ks; omega) (fun E S2 h => by obtain ⟨r, h1, h2⟩ := h; cases h1) (fun o2 S2 hq => ?_)
  obtain ⟨r, h1, h2⟩ := id hq
  cases h1
  have hE := e_C hX.2.2.2.1.2.1 hX.2.2.2.1.2.2 hI (fun h => ia_cut hI h) hf hK hB hc hq
  exact t_I dL_law_1389 dL_law_1391 dL_law_1392 dL_law_1395 dL_law_1397 dL_law_1402 dL_law_1404 dL_law_1407 dL_law_1408 dL_law_1409 dL_law_1410 dL_law_1412 dL_law_1413 dL_law_1414 dL_law_1419 (by decide) hE (kk _ hE.1)
theorem K_swap (hS : SJ g b n xs) (h0 : 0 ≤ i) (hi : i + 6 ≤ n) (hW : WJ S x) (kk : ∀ S' : PS, WJ S' x → PW g cL_law (iL_law nm hh) 2986 (lL b x i) [] S' kc ks Q) : PW g cL_law (iL_law nm hh) 1422 (lL b x i) [] S (kc + 12) (ks + 60) Q := by
  obtain ⟨a, H, nx, ct, fd, ea, th, tx, kp, bf, hX, hI, hf, hJ, hK, hB, hF⟩ := hW
  refine r_aload_n dL_law_1422 (i := 1) rfl rfl ?_
  refine r_arg dL_law_1423 dL_law_1424 dL_law_1426 dL_law_1427 dL_law_1428 hS rfl rfl h0 (by omega) hi ?_
  refine r_arg dL_law_1429 dL_law_1430 dL_law_1432 dL_law_1433 dL_law_1434 hS rfl rfl h0 (by omega) hi ?_
  refine r_aload_n dL_law_1435 (i := 3) rfl rfl ?_
  have c1 := L1_swap (g := g) (mc := 1) (ms := 6) (s := sA xs (i + 1)) (t := sA xs (i + 2)) hX hI hJ hF hf sA_ri sA_ri (Nat.le_refl _) (Nat.le_refl _) (k9_swap (s := sA xs (i + 1)) (t := sA xs (i + 2)))
  refine r_invW dL_law_1436 c1 (fun E S' h => by cases h.1) mq_L_swap ml_L_214 ⟨Nat.le_of_ble_eq_true rfl, Nat.le_of_ble_eq_true rfl⟩ rfl rfl (Nat.le_of_ble_eq_true rfl) (kc' := kc) (ks' := ks) (by show 1 + kc ≤ kc + 12; omega) (by show 6 + ks ≤ ks + 60; omega) (fun o S1 hc => ?_)
  obtain ⟨e1, hk9, hJ1, hF1, -, -⟩ := id hc
  cases e1
  refine r_istore (x := _) dL_law_1439 rfl (Nat.le_of_ble_eq_true rfl) ?_
  refine r_aload_n dL_law_1441 (i := 2) rfl rfl ?_
  refine r_arg dL_law_1442 dL_law_1443 dL_law_1445 dL_law_1446 dL_law_1447 hS rfl rfl h0 (by omega) hi ?_
  refine r_arg dL_law_1448 dL_law_1449 dL_law_1451 dL_law_1452 dL_law_1453 hS rfl rfl h0 (by omega) hi ?_
  have c2 := M1_swap (g := g) (mc := 0) (ms := 0) (s := sA xs (i + 1)) (t := sA xs (i + 2)) hI hX.2.2.2.1.2.2 hJ1 sA_ri sA_ri
  obtain ⟨sz, at', be, ki, wr, wa, nu, bs, bw, bt', hm⟩ := hJ1.1
  refine r_invV dL_law_1454 c2 mq_X10_swap ml_L_216 ⟨Nat.le_of_ble_eq_true rfl, Nat.le_of_ble_eq_true rfl⟩ hm rfl rfl rfl (Nat.le_of_ble_eq_true rfl) (kc' := kc) (ks' := ks) (by show 0 + kc ≤ kc; omega) (by show 0 + ks ≤ ks; omega) (fun E S2 h => by obtain ⟨r, h1, h2⟩ := h; cases h1) (fun o2 S2 hq => ?_)
  obtain ⟨r, h1, h2⟩ := id hq
  cases h1
  have hE := e_C hX.2.2.2.1.2.1 hX.2.2.2.1.2.2 hI (fun h => ia_swap hI h) hf hK hB hc hq
  exact t_I dL_law_1457 dL_law_1459 dL_law_1460 dL_law_1463 dL_law_1465 dL_law_1470 dL_law_1472 dL_law_1475 dL_law_1476 dL_law_1477 dL_law_1478 dL_law_1480 dL_law_1481 dL_law_1482 dL_law_1487 (by decide) hE (kk _ hE.1)
theorem K_transform (hS : SJ g b n xs) (h0 : 0 ≤ i) (hi : i + 6 ≤ n) (hW : WJ S x) (kk : ∀ S' : PS, WJ S' x → PW g cL_law (iL_law nm hh) 2986 (lL b x i) [] S' kc ks Q) : PW g cL_law (iL_law nm hh) 1490 (lL b x i) [] S (kc + 12) (ks + 60) Q := by
  obtain ⟨a, H, nx, ct, fd, ea, th, tx, kp, bf, hX, hI, hf, hJ, hK, hB, hF⟩ := hW
  refine r_aload_n dL_law_1490 (i := 1) rfl rfl ?_
  refine r_arg dL_law_1491 dL_law_1492 dL_law_1494 dL_law_1495 dL_law_1496 hS rfl rfl h0 (by omega) hi ?_
  refine r_arg dL_law_1497 dL_law_1498 dL_law_1500 dL_law_1501 dL_law_1502 hS rfl rfl h0 (by omega) hi ?_
  refine r_arg dL_law_1503 dL_law_1504 dL_law_1506 dL_law_1507 dL_law_1508 hS rfl rfl h0 (by omega) hi ?_
  refine r_arg dL_law_1509 dL_law_1510 dL_law_1512 dL_law_1513 dL_law_1514 hS rfl rfl h0 (by omega) hi ?_
  refine r_aload_n dL_law_1515 (i := 3) rfl rfl ?_
  have c1 := L1_transform (g := g) (mc := 1) (ms := 6) (q := sA xs (i + 1)) (s := sA xs (i + 2)) (n := sA xs (i + 3)) (k := sA xs (i + 4)) hX hI hJ hF hf sA_ri sA_ri sA_ri sA_ri (Nat.le_refl _) (Nat.le_refl _) (k9_transform (q := sA xs (i + 1)) (s := sA xs (i + 2)) (n := sA xs (i + 3)) (k := sA xs (i + 4)))
  refine r_invW dL_law_1516 c1 (fun E S' h => by cases h.1) mq_L_transform ml_L_217 ⟨Nat.le_of_ble_eq_true rfl, Nat.le_of_ble_eq_true rfl⟩ rfl rfl (Nat.le_of_ble_eq_true rfl) (kc' := kc) (ks' := ks) (by show 1 + kc ≤ kc + 12; omega) (by show 6 + ks ≤ ks + 60; omega) (fun o S1 hc => ?_)
  obtain ⟨e1, hk9, hJ1, hF1, -, -⟩ := id hc
  cases e1
  refine r_istore (x := _) dL_law_1519 rfl (Nat.le_of_ble_eq_true rfl) ?_
  refine r_aload_n dL_law_1521 (i := 2) rfl rfl ?_
  refine r_arg dL_law_1522 dL_law_1523 dL_law_1525 dL_law_1526 dL_law_1527 hS rfl rfl h0 (by omega) hi ?_
  refine r_arg dL_law_1528 dL_law_1529 dL_law_1531 dL_law_1532 dL_law_1533 hS rfl rfl h0 (by omega) hi ?_
  refine r_arg dL_law_1534 dL_law_1535 dL_law_1537 dL_law_1538 dL_law_1539 hS rfl rfl h0 (by omega) hi ?_
  refine r_arg dL_law_1540 dL_law_1541 dL_law_1543 dL_law_1544 dL_law_1545 hS rfl rfl h0 (by omega) hi ?_
  have c2 := M1_transform (g := g) (mc := 0) (ms := 0) (q := sA xs (i + 1)) (s := sA xs (i + 2)) (n := sA xs (i + 3)) (k := sA xs (i + 4)) hI hX.2.2.2.1.2.2 hJ1 sA_ri sA_ri sA_ri sA_ri
  obtain ⟨sz, at', be, ki, wr, wa, nu, bs, bw, bt', hm⟩ := hJ1.1
  refine r_invV dL_law_1546 c2 mq_X10_transform ml_L_219 ⟨Nat.le_of_ble_eq_true rfl, Nat.le_of_ble_eq_true rfl⟩ hm rfl rfl rfl (Nat.le_of_ble_eq_true rfl) (kc' := kc) (ks' := ks) (by show 0 + kc ≤ kc; omega) (by show 0 + ks ≤ ks; omega) (fun E S2 h => by obtain ⟨r, h1, h2⟩ := h; cases h1) (fun o2 S2 hq => ?_)
  obtain ⟨r, h1, h2⟩ := id hq
  cases h1
  have hE := e_Q hI hf hK hB hc hq
  exact t_I dL_law_1549 dL_law_1551 dL_law_1552 dL_law_1555 dL_law_1557 dL_law_1562 dL_law_1564 dL_law_1567 dL_law_1568 dL_law_1569 dL_law_1570 dL_law_1572 dL_law_1573 dL_law_1574 dL_law_1579 (by decide) hE (kk _ hE.1)
theorem K_cost (hS : SJ g b n xs) (h0 : 0 ≤ i) (hi : i + 6 ≤ n) (hW : WJ S x) (kk : ∀ S' : PS, WJ S' x → PW g cL_law (iL_law nm hh) 2986 (lL b x i) [] S' kc ks Q) : PW g cL_law (iL_law nm hh) 1582 (lL b x i) [] S (kc + 12) (ks + 60) Q := by
  obtain ⟨a, H, nx, ct, fd, ea, th, tx, kp, bf, hX, hI, hf, hJ, hK, hB, hF⟩ := hW
  refine r_aload_n dL_law_1582 (i := 1) rfl rfl ?_
  refine r_arg dL_law_1583 dL_law_1584 dL_law_1586 dL_law_1587 dL_law_1588 hS rfl rfl h0 (by omega) hi ?_
  refine r_arg dL_law_1589 dL_law_1590 dL_law_1592 dL_law_1593 dL_law_1594 hS rfl rfl h0 (by omega) hi ?_
  refine r_arg dL_law_1595 dL_law_1596 dL_law_1598 dL_law_1599 dL_law_1600 hS rfl rfl h0 (by omega) hi ?_
  refine r_aload_n dL_law_1601 (i := 3) rfl rfl ?_
  have c1 := L1_cost (g := g) (mc := 1) (ms := 6) (q := sA xs (i + 1)) (n := sA xs (i + 2)) (mt := sA xs (i + 3)) hX hI hJ hF hf sA_ri sA_ri sA_ri (Nat.le_refl _) (Nat.le_refl _) (k9_cost (q := sA xs (i + 1)) (n := sA xs (i + 2)) (mt := sA xs (i + 3)))
  refine r_invW dL_law_1602 c1 (fun E S' h => by cases h.1) mq_L_cost ml_L_220 ⟨Nat.le_of_ble_eq_true rfl, Nat.le_of_ble_eq_true rfl⟩ rfl rfl (Nat.le_of_ble_eq_true rfl) (kc' := kc) (ks' := ks) (by show 1 + kc ≤ kc + 12; omega) (by show 6 + ks ≤ ks + 60; omega) (fun o S1 hc => ?_)
  obtain ⟨e1, hk9, hJ1, hF1, -, -⟩ := id hc
  cases e1
  refine r_istore (x := _) dL_law_1605 rfl (Nat.le_of_ble_eq_true rfl) ?_
  refine r_aload_n dL_law_1607 (i := 2) rfl rfl ?_
  refine r_arg dL_law_1608 dL_law_1609 dL_law_1611 dL_law_1612 dL_law_1613 hS rfl rfl h0 (by omega) hi ?_
  refine r_arg dL_law_1614 dL_law_1615 dL_law_1617 dL_law_1618 dL_law_1619 hS rfl rfl h0 (by omega) hi ?_
  refine r_arg dL_law_1620 dL_law_1621 dL_law_1623 dL_law_1624 dL_law_1625 hS rfl rfl h0 (by omega) hi ?_
  have c2 := M1_cost (g := g) (mc := 0) (ms := 0) (q := sA xs (i + 1)) (n := sA xs (i + 2)) (mt := sA xs (i + 3)) hI hX.2.2.2.1.2.2 hJ1 sA_ri sA_ri sA_ri
  obtain ⟨sz, at', be, ki, wr, wa, nu, bs, bw, bt', hm⟩ := hJ1.1
  refine r_invV dL_law_1626 c2 mq_X10_cost ml_L_222 ⟨Nat.le_of_ble_eq_true rfl, Nat.le_of_ble_eq_true rfl⟩ hm rfl rfl rfl (Nat.le_of_ble_eq_true rfl) (kc' := kc) (ks' := ks) (by show 0 + kc ≤ kc; omega) (by show 0 + ks ≤ ks; omega) (fun E S2 h => by obtain ⟨r, h1, h2⟩ := h; cases h1) (fun o2 S2 hq => ?_)
  obtain ⟨r, h1, h2⟩ := id hq
  cases h1
  have hE := e_Q hI hf hK hB hc hq
  exact t_I dL_law_1629 dL_law_1631 dL_law_1632 dL_law_1635 dL_law_1637 dL_law_1642 dL_law_1644 dL_law_1647 dL_law_1648 dL_law_1649 dL_law_1650 dL_law_1652 dL_law_1653 dL_law_1654 dL_law_1659 (by decide) hE (kk _ hE.1)
theorem K_method (hS : SJ g b n xs) (h0 : 0 ≤ i) (hi : i + 6 ≤ n) (hW : WJ S x) (kk : ∀ S' : PS, WJ S' x → PW g cL_law (iL_law nm hh) 2986 (lL b x i) [] S' kc ks Q) : PW g cL_law (iL_law nm hh) 1662 (lL b x i) [] S (kc + 12) (ks + 60) Q := by
  obtain ⟨a, H, nx, ct, fd, ea, th, tx, kp, bf, hX, hI, hf, hJ, hK, hB, hF⟩ := hW
  refine r_aload_n dL_law_1662 (i := 1) rfl rfl ?_
  refine r_arg dL_law_1663 dL_law_1664 dL_law_1666 dL_law_1667 dL_law_1668 hS rfl rfl h0 (by omega) hi ?_
  refine r_arg dL_law_1669 dL_law_1670 dL_law_1672 dL_law_1673 dL_law_1674 hS rfl rfl h0 (by omega) hi ?_
  refine r_aload_n dL_law_1675 (i := 3) rfl rfl ?_
  have c1 := L1_method (g := g) (mc := 1) (ms := 6) (q := sA xs (i + 1)) (n := sA xs (i + 2)) hX hI hJ hF hf sA_ri sA_ri (Nat.le_refl _) (Nat.le_refl _) (k9_method (q := sA xs (i + 1)) (n := sA xs (i + 2)))
  refine r_invW dL_law_1676 c1 (fun E S' h => by cases h.1) mq_L_method ml_L_223 ⟨Nat.le_of_ble_eq_true rfl, Nat.le_of_ble_eq_true rfl⟩ rfl rfl (Nat.le_of_ble_eq_true rfl) (kc' := kc) (ks' := ks) (by show 1 + kc ≤ kc + 12; omega) (by show 6 + ks ≤ ks + 60; omega) (fun o S1 hc => ?_)
  obtain ⟨e1, hk9, hJ1, hF1, -, -⟩ := id hc
  cases e1
  refine r_istore (x := _) dL_law_1679 rfl (Nat.le_of_ble_eq_true rfl) ?_
  refine r_aload_n dL_law_1681 (i := 2) rfl rfl ?_
  refine r_arg dL_law_1682 dL_law_1683 dL_law_1685 dL_law_1686 dL_law_1687 hS rfl rfl h0 (by omega) hi ?_
  refine r_arg dL_law_1688 dL_law_1689 dL_law_1691 dL_law_1692 dL_law_1693 hS rfl rfl h0 (by omega) hi ?_
  have c2 := M1_method (g := g) (mc := 0) (ms := 0) (q := sA xs (i + 1)) (n := sA xs (i + 2)) hI hX.2.2.2.1.2.2 hJ1 sA_ri sA_ri
  obtain ⟨sz, at', be, ki, wr, wa, nu, bs, bw, bt', hm⟩ := hJ1.1
  refine r_invV dL_law_1694 c2 mq_X10_method ml_L_225 ⟨Nat.le_of_ble_eq_true rfl, Nat.le_of_ble_eq_true rfl⟩ hm rfl rfl rfl (Nat.le_of_ble_eq_true rfl) (kc' := kc) (ks' := ks) (by show 0 + kc ≤ kc; omega) (by show 0 + ks ≤ ks; omega) (fun E S2 h => by obtain ⟨r, h1, h2⟩ := h; cases h1) (fun o2 S2 hq => ?_)
  obtain ⟨r, h1, h2⟩ := id hq
  cases h1
  have hE := e_Q hI hf hK hB hc hq
  exact t_I dL_law_1697 dL_law_1699 dL_law_1700 dL_law_1703 dL_law_1705 dL_law_1710 dL_law_1712 dL_law_1715 dL_law_1716 dL_law_1717 dL_law_1718 dL_law_1720 dL_law_1721 dL_law_1722 dL_law_1727 (by decide) hE (kk _ hE.1)
theorem K_chirp (hS : SJ g b n xs) (h0 : 0 ≤ i) (hi : i + 6 ≤ n) (hW : WJ S x) (kk : ∀ S' : PS, WJ S' x → PW g cL_law (iL_law nm hh) 2986 (lL b x i) [] S' kc ks Q) : PW g cL_law (iL_law nm hh) 1730 (lL b x i) [] S (kc + 12) (ks + 60) Q := by
  obtain ⟨a, H, nx, ct, fd, ea, th, tx, kp, bf, hX, hI, hf, hJ, hK, hB, hF⟩ := hW
  refine r_aload_n dL_law_1730 (i := 1) rfl rfl ?_
  refine r_arg dL_law_1731 dL_law_1732 dL_law_1734 dL_law_1735 dL_law_1736 hS rfl rfl h0 (by omega) hi ?_
  refine r_arg dL_law_1737 dL_law_1738 dL_law_1740 dL_law_1741 dL_law_1742 hS rfl rfl h0 (by omega) hi ?_
  refine r_arg dL_law_1743 dL_law_1744 dL_law_1746 dL_law_1747 dL_law_1748 hS rfl rfl h0 (by omega) hi ?_
  refine r_aload_n dL_law_1749 (i := 3) rfl rfl ?_
  have c1 := L1_chirp (g := g) (mc := 1) (ms := 6) (q := sA xs (i + 1)) (n := sA xs (i + 2)) (j := sA xs (i + 3)) hX hI hJ hF hf sA_ri sA_ri sA_ri (Nat.le_refl _) (Nat.le_refl _) (k9_chirp (q := sA xs (i + 1)) (n := sA xs (i + 2)) (j := sA xs (i + 3)))
  refine r_invW dL_law_1750 c1 (fun E S' h => by cases h.1) mq_L_chirp ml_L_226 ⟨Nat.le_of_ble_eq_true rfl, Nat.le_of_ble_eq_true rfl⟩ rfl rfl (Nat.le_of_ble_eq_true rfl) (kc' := kc) (ks' := ks) (by show 1 + kc ≤ kc + 12; omega) (by show 6 + ks ≤ ks + 60; omega) (fun o S1 hc => ?_)
  obtain ⟨e1, hk9, hJ1, hF1, -, -⟩ := id hc
  cases e1
  refine r_istore (x := _) dL_law_1753 rfl (Nat.le_of_ble_eq_true rfl) ?_
  refine r_aload_n dL_law_1755 (i := 2) rfl rfl ?_
  refine r_arg dL_law_1756 dL_law_1757 dL_law_1759 dL_law_1760 dL_law_1761 hS rfl rfl h0 (by omega) hi ?_
  refine r_arg dL_law_1762 dL_law_1763 dL_law_1765 dL_law_1766 dL_law_1767 hS rfl rfl h0 (by omega) hi ?_
  refine r_arg dL_law_1768 dL_law_1769 dL_law_1771 dL_law_1772 dL_law_1773 hS rfl rfl h0 (by omega) hi ?_
  have c2 := M1_chirp (g := g) (mc := 0) (ms := 0) (q := sA xs (i + 1)) (n := sA xs (i + 2)) (j := sA xs (i + 3)) hI hX.2.2.2.1.2.2 hJ1 sA_ri sA_ri sA_ri
  obtain ⟨sz, at', be, ki, wr, wa, nu, bs, bw, bt', hm⟩ := hJ1.1
  refine r_invV dL_law_1774 c2 mq_X10_chirp ml_L_228 ⟨Nat.le_of_ble_eq_true rfl, Nat.le_of_ble_eq_true rfl⟩ hm rfl rfl rfl (Nat.le_of_ble_eq_true rfl) (kc' := kc) (ks' := ks) (by show 0 + kc ≤ kc; omega) (by show 0 + ks ≤ ks; omega) (fun E S2 h => by obtain ⟨r, h1, h2⟩ := h; cases h1) (fun o2 S2 hq => ?_)
  obtain ⟨r, h1, h2⟩ := id hq
  cases h1
  have hE := e_Q hI hf hK hB hc hq
  exact t_I dL_law_1777 dL_law_1779 dL_law_1780 dL_law_1783 dL_law_1785 dL_law_1790 dL_law_1792 dL_law_1795 dL_law_1796 dL_law_1797 dL_law_1798 dL_law_1800 dL_law_1801 dL_law_1802 dL_law_1807 (by decide) hE (kk _ hE.1)
theorem K_longest (hS : SJ g b n xs) (h0 : 0 ≤ i) (hi : i + 6 ≤ n) (hW : WJ S x) (kk : ∀ S' : PS, WJ S' x → PW g cL_law (iL_law nm hh) 2986 (lL b x i) [] S' kc ks Q) : PW g cL_law (iL_law nm hh) 1810 (lL b x i) [] S (kc + 12) (ks + 60) Q := by
  obtain ⟨a, H, nx, ct, fd, ea, th, tx, kp, bf, hX, hI, hf, hJ, hK, hB, hF⟩ := hW
  refine r_aload_n dL_law_1810 (i := 1) rfl rfl ?_
  refine r_arg dL_law_1811 dL_law_1812 dL_law_1814 dL_law_1815 dL_law_1816 hS rfl rfl h0 (by omega) hi ?_
  refine r_aload_n dL_law_1817 (i := 3) rfl rfl ?_
  have c1 := L1_longest (g := g) (mc := 1) (ms := 6) (set := sA xs (i + 1)) hX hI hJ hF hf sA_ri (Nat.le_refl _) (Nat.le_refl _) (k9_longest (set := sA xs (i + 1)))
  refine r_invW dL_law_1818 c1 (fun E S' h => by cases h.1) mq_L_longest ml_L_229 ⟨Nat.le_of_ble_eq_true rfl, Nat.le_of_ble_eq_true rfl⟩ rfl rfl (Nat.le_of_ble_eq_true rfl) (kc' := kc) (ks' := ks) (by show 1 + kc ≤ kc + 12; omega) (by show 6 + ks ≤ ks + 60; omega) (fun o S1 hc => ?_)
  obtain ⟨e1, hk9, hJ1, hF1, -, -⟩ := id hc
  cases e1
  refine r_istore (x := _) dL_law_1821 rfl (Nat.le_of_ble_eq_true rfl) ?_
  refine r_aload_n dL_law_1823 (i := 2) rfl rfl ?_
  refine r_arg dL_law_1824 dL_law_1825 dL_law_1827 dL_law_1828 dL_law_1829 hS rfl rfl h0 (by omega) hi ?_
  have c2 := M1_longest (g := g) (mc := 0) (ms := 0) (set := sA xs (i + 1)) hI hX.2.2.2.1.2.2 hJ1 sA_ri
  obtain ⟨sz, at', be, ki, wr, wa, nu, bs, bw, bt', hm⟩ := hJ1.1
  refine r_invV dL_law_1830 c2 mq_X10_longest ml_L_231 ⟨Nat.le_of_ble_eq_true rfl, Nat.le_of_ble_eq_true rfl⟩ hm rfl rfl rfl (Nat.le_of_ble_eq_true rfl) (kc' := kc) (ks' := ks) (by show 0 + kc ≤ kc; omega) (by show 0 + ks ≤ ks; omega) (fun E S2 h => by obtain ⟨r, h1, h2⟩ := h; cases h1) (fun o2 S2 hq => ?_)
  obtain ⟨r, h1, h2⟩ := id hq
  cases h1
  have hE := e_Q hI hf hK hB hc hq
  exact t_I dL_law_1833 dL_law_1835 dL_law_1836 dL_law_1839 dL_law_1841 dL_law_1846 dL_law_1848 dL_law_1851 dL_law_1852 dL_law_1853 dL_law_1854 dL_law_1856 dL_law_1857 dL_law_1858 dL_law_1863 (by decide) hE (kk _ hE.1)
theorem K_size (hS : SJ g b n xs) (h0 : 0 ≤ i) (hi : i + 6 ≤ n) (hW : WJ S x) (kk : ∀ S' : PS, WJ S' x → PW g cL_law (iL_law nm hh) 2986 (lL b x i) [] S' kc ks Q) : PW g cL_law (iL_law nm hh) 1866 (lL b x i) [] S (kc + 12) (ks + 60) Q := by
  obtain ⟨a, H, nx, ct, fd, ea, th, tx, kp, bf, hX, hI, hf, hJ, hK, hB, hF⟩ := hW
  refine r_aload_n dL_law_1866 (i := 1) rfl rfl ?_
  refine r_arg dL_law_1867 dL_law_1868 dL_law_1870 dL_law_1871 dL_law_1872 hS rfl rfl h0 (by omega) hi ?_
  refine r_arg dL_law_1873 dL_law_1874 dL_law_1876 dL_law_1877 dL_law_1878 hS rfl rfl h0 (by omega) hi ?_
  refine r_arg dL_law_1879 dL_law_1880 dL_law_1882 dL_law_1883 dL_law_1884 hS rfl rfl h0 (by omega) hi ?_
  refine r_arg dL_law_1885 dL_law_1886 dL_law_1888 dL_law_1889 dL_law_1890 hS rfl rfl h0 (by omega) hi ?_
  refine r_aload_n dL_law_1891 (i := 3) rfl rfl ?_
  have c1 := L1_size (g := g) (mc := 1) (ms := 6) (kd := sA xs (i + 1)) (s := sA xs (i + 2)) (t := sA xs (i + 3)) (n := sA xs (i + 4)) hX hI hJ hF hf sA_ri sA_ri sA_ri sA_ri (Nat.le_refl _) (Nat.le_refl _) (k9_size (kd := sA xs (i + 1)) (s := sA xs (i + 2)) (t := sA xs (i + 3)) (n := sA xs (i + 4)))
  refine r_invW dL_law_1892 c1 (fun E S' h => by cases h.1) mq_L_size ml_L_232 ⟨Nat.le_of_ble_eq_true rfl, Nat.le_of_ble_eq_true rfl⟩ rfl rfl (Nat.le_of_ble_eq_true rfl) (kc' := kc) (ks' := ks) (by show 1 + kc ≤ kc + 12; omega) (by show 6 + ks ≤ ks + 60; omega) (fun o S1 hc => ?_)
  obtain ⟨e1, hk9, hJ1, hF1, -, -⟩ := id hc
  cases e1
  refine r_istore (x := _) dL_law_1895 rfl (Nat.le_of_ble_eq_true rfl) ?_
  refine r_aload_n dL_law_1897 (i := 2) rfl rfl ?_
  refine r_arg dL_law_1898 dL_law_1899 dL_law_1901 dL_law_1902 dL_law_1903 hS rfl rfl h0 (by omega) hi ?_
  refine r_arg dL_law_1904 dL_law_1905 dL_law_1907 dL_law_1908 dL_law_1909 hS rfl rfl h0 (by omega) hi ?_
  refine r_arg dL_law_1910 dL_law_1911 dL_law_1913 dL_law_1914 dL_law_1915 hS rfl rfl h0 (by omega) hi ?_
  refine r_arg dL_law_1916 dL_law_1917 dL_law_1919 dL_law_1920 dL_law_1921 hS rfl rfl h0 (by omega) hi ?_
  have c2 := M1_size (g := g) (mc := 0) (ms := 0) (kd := sA xs (i + 1)) (s := sA xs (i + 2)) (t := sA xs (i + 3)) (n := sA xs (i + 4)) hI hX.2.2.2.1.2.2 hJ1 sA_ri sA_ri sA_ri sA_ri
  obtain ⟨sz, at', be, ki, wr, wa, nu, bs, bw, bt', hm⟩ := hJ1.1
  refine r_invV dL_law_1922 c2 mq_X10_size ml_L_234 ⟨Nat.le_of_ble_eq_true rfl, Nat.le_of_ble_eq_true rfl⟩ hm rfl rfl rfl (Nat.le_of_ble_eq_true rfl) (kc' := kc) (ks' := ks) (by show 0 + kc ≤ kc; omega) (by show 0 + ks ≤ ks; omega) (fun E S2 h => by obtain ⟨r, h1, h2⟩ := h; cases h1) (fun o2 S2 hq => ?_)
  obtain ⟨r, h1, h2⟩ := id hq
  cases h1
  have hE := e_Q hI hf hK hB hc hq
  exact t_I dL_law_1925 dL_law_1927 dL_law_1928 dL_law_1931 dL_law_1933 dL_law_1938 dL_law_1940 dL_law_1943 dL_law_1944 dL_law_1945 dL_law_1946 dL_law_1948 dL_law_1949 dL_law_1950 dL_law_1955 (by decide) hE (kk _ hE.1)
theorem K_bound (hS : SJ g b n xs) (h0 : 0 ≤ i) (hi : i + 6 ≤ n) (hW : WJ S x) (kk : ∀ S' : PS, WJ S' x → PW g cL_law (iL_law nm hh) 2986 (lL b x i) [] S' kc ks Q) : PW g cL_law (iL_law nm hh) 1958 (lL b x i) [] S (kc + 12) (ks + 60) Q := by
  obtain ⟨a, H, nx, ct, fd, ea, th, tx, kp, bf, hX, hI, hf, hJ, hK, hB, hF⟩ := hW
  refine r_aload_n dL_law_1958 (i := 1) rfl rfl ?_
  refine r_arg dL_law_1959 dL_law_1960 dL_law_1962 dL_law_1963 dL_law_1964 hS rfl rfl h0 (by omega) hi ?_
  refine r_arg dL_law_1965 dL_law_1966 dL_law_1968 dL_law_1969 dL_law_1970 hS rfl rfl h0 (by omega) hi ?_
  refine r_aload_n dL_law_1971 (i := 3) rfl rfl ?_
  have c1 := L1_bound (g := g) (mc := 1) (ms := 6) (s := sA xs (i + 1)) (t := sA xs (i + 2)) hX hI hJ hF hf sA_ri sA_ri (Nat.le_refl _) (Nat.le_refl _) (k9_bound (s := sA xs (i + 1)) (t := sA xs (i + 2)))
  refine r_invW dL_law_1972 c1 (fun E S' h => by cases h.1) mq_L_bound ml_L_235 ⟨Nat.le_of_ble_eq_true rfl, Nat.le_of_ble_eq_true rfl⟩ rfl rfl (Nat.le_of_ble_eq_true rfl) (kc' := kc) (ks' := ks) (by show 1 + kc ≤ kc + 12; omega) (by show 6 + ks ≤ ks + 60; omega) (fun o S1 hc => ?_)
  obtain ⟨e1, hk9, hJ1, hF1, -, -⟩ := id hc
  cases e1
  refine r_istore (x := _) dL_law_1975 rfl (Nat.le_of_ble_eq_true rfl) ?_
  refine r_aload_n dL_law_1977 (i := 2) rfl rfl ?_
  refine r_arg dL_law_1978 dL_law_1979 dL_law_1981 dL_law_1982 dL_law_1983 hS rfl rfl h0 (by omega) hi ?_
  refine r_arg dL_law_1984 dL_law_1985 dL_law_1987 dL_law_1988 dL_law_1989 hS rfl rfl h0 (by omega) hi ?_
  have c2 := M1_bound (g := g) (mc := 0) (ms := 0) (s := sA xs (i + 1)) (t := sA xs (i + 2)) hI hX.2.2.2.1.2.2 hJ1 sA_ri sA_ri
  obtain ⟨sz, at', be, ki, wr, wa, nu, bs, bw, bt', hm⟩ := hJ1.1
  refine r_invV dL_law_1990 c2 mq_X10_bound ml_L_237 ⟨Nat.le_of_ble_eq_true rfl, Nat.le_of_ble_eq_true rfl⟩ hm rfl rfl rfl (Nat.le_of_ble_eq_true rfl) (kc' := kc) (ks' := ks) (by show 0 + kc ≤ kc; omega) (by show 0 + ks ≤ ks; omega) (fun E S2 h => by obtain ⟨r, h1, h2⟩ := h; cases h1) (fun o2 S2 hq => ?_)
  obtain ⟨r, h1, h2⟩ := id hq
  cases h1
  have hE := e_Q hI hf hK hB hc hq
  exact t_J dL_law_1993 dL_law_1995 dL_law_1996 dL_law_1999 dL_law_2001 dL_law_2006 dL_law_2008 dL_law_2011 dL_law_2012 dL_law_2013 dL_law_2014 dL_law_2016 dL_law_2017 dL_law_2022 (by decide) hE (kk _ hE.1)
theorem K_coefficient (hS : SJ g b n xs) (h0 : 0 ≤ i) (hi : i + 6 ≤ n) (hW : WJ S x) (kk : ∀ S' : PS, WJ S' x → PW g cL_law (iL_law nm hh) 2986 (lL b x i) [] S' kc ks Q) : PW g cL_law (iL_law nm hh) 2025 (lL b x i) [] S (kc + 12) (ks + 60) Q := by
  obtain ⟨a, H, nx, ct, fd, ea, th, tx, kp, bf, hX, hI, hf, hJ, hK, hB, hF⟩ := hW
  refine r_aload_n dL_law_2025 (i := 1) rfl rfl ?_
  refine r_arg dL_law_2026 dL_law_2027 dL_law_2029 dL_law_2030 dL_law_2031 hS rfl rfl h0 (by omega) hi ?_
  refine r_arg dL_law_2032 dL_law_2033 dL_law_2035 dL_law_2036 dL_law_2037 hS rfl rfl h0 (by omega) hi ?_
  refine r_arg dL_law_2038 dL_law_2039 dL_law_2041 dL_law_2042 dL_law_2043 hS rfl rfl h0 (by omega) hi ?_
  refine r_arg dL_law_2044 dL_law_2045 dL_law_2047 dL_law_2048 dL_law_2049 hS rfl rfl h0 (by omega) hi ?_
  refine r_arg dL_law_2050 dL_law_2051 dL_law_2053 dL_law_2054 dL_law_2055 hS rfl rfl h0 (by omega) hi ?_
  refine r_aload_n dL_law_2056 (i := 3) rfl rfl ?_
  have c1 := L1_coefficient (g := g) (mc := 1) (ms := 6) (kd := sA xs (i + 1)) (s := sA xs (i + 2)) (t := sA xs (i + 3)) (n := sA xs (i + 4)) (k := sA xs (i + 5)) hX hI hJ hF hf sA_ri sA_ri sA_ri sA_ri sA_ri (Nat.le_refl _) (Nat.le_refl _) (k9_coefficient (kd := sA xs (i + 1)) (s := sA xs (i + 2)) (t := sA xs (i + 3)) (n := sA xs (i + 4)) (k := sA xs (i + 5)))
  refine r_invW dL_law_2057 c1 (fun E S' h => by cases h.1) mq_L_coefficient ml_L_238 ⟨Nat.le_of_ble_eq_true rfl, Nat.le_of_ble_eq_true rfl⟩ rfl rfl (Nat.le_of_ble_eq_true rfl) (kc' := kc) (ks' := ks) (by show 1 + kc ≤ kc + 12; omega) (by show 6 + ks ≤ ks + 60; omega) (fun o S1 hc => ?_)
  obtain ⟨e1, hk9, hJ1, hF1, -, -⟩ := id hc
  cases e1
  refine r_istore (x := _) dL_law_2060 rfl (Nat.le_of_ble_eq_true rfl) ?_
  refine r_aload_n dL_law_2062 (i := 2) rfl rfl ?_
  refine r_arg dL_law_2063 dL_law_2064 dL_law_2066 dL_law_2067 dL_law_2068 hS rfl rfl h0 (by omega) hi ?_
  refine r_arg dL_law_2069 dL_law_2070 dL_law_2072 dL_law_2073 dL_law_2074 hS rfl rfl h0 (by omega) hi ?_
  refine r_arg dL_law_2075 dL_law_2076 dL_law_2078 dL_law_2079 dL_law_2080 hS rfl rfl h0 (by omega) hi ?_
  refine r_arg dL_law_2081 dL_law_2082 dL_law_2084 dL_law_2085 dL_law_2086 hS rfl rfl h0 (by omega) hi ?_
  refine r_arg dL_law_2087 dL_law_2088 dL_law_2090 dL_law_2091 dL_law_2092 hS rfl rfl h0 (by omega) hi ?_
  have c2 := M1_coefficient (g := g) (mc := 0) (ms := 0) (kd := sA xs (i + 1)) (s := sA xs (i + 2)) (t := sA xs (i + 3)) (n := sA xs (i + 4)) (k := sA xs (i + 5)) hI hX.2.2.2.1.2.2 hJ1 sA_ri sA_ri sA_ri sA_ri sA_ri
  obtain ⟨sz, at', be, ki, wr, wa, nu, bs, bw, bt', hm⟩ := hJ1.1
  refine r_invV dL_law_2093 c2 mq_X10_coefficient ml_L_240 ⟨Nat.le_of_ble_eq_true rfl, Nat.le_of_ble_eq_true rfl⟩ hm rfl rfl rfl (Nat.le_of_ble_eq_true rfl) (kc' := kc) (ks' := ks) (by show 0 + kc ≤ kc; omega) (by show 0 + ks ≤ ks; omega) (fun E S2 h => by obtain ⟨r, h1, h2⟩ := h; cases h1) (fun o2 S2 hq => ?_)
  obtain ⟨r, h1, h2⟩ := id hq
  cases h1
  have hE := e_Q hI hf hK hB hc hq
  exact t_J dL_law_2096 dL_law_2098 dL_law_2099 dL_law_2102 dL_law_2104 dL_law_2109 dL_law_2111 dL_law_2114 dL_law_2115 dL_law_2116 dL_law_2117 dL_law_2119 dL_law_2120 dL_law_2125 (by decide) hE (kk _ hE.1)
theorem K_isEnough (hS : SJ g b n xs) (h0 : 0 ≤ i) (hi : i + 6 ≤ n) (hW : WJ S x) (kk : ∀ S' : PS, WJ S' x → PW g cL_law (iL_law nm hh) 2986 (lL b x i) [] S' kc ks Q) : PW g cL_law (iL_law nm hh) 2128 (lL b x i) [] S (kc + 12) (ks + 60) Q := by
  obtain ⟨a, H, nx, ct, fd, ea, th, tx, kp, bf, hX, hI, hf, hJ, hK, hB, hF⟩ := hW
  refine r_aload_n dL_law_2128 (i := 1) rfl rfl ?_
  refine r_arg dL_law_2129 dL_law_2130 dL_law_2132 dL_law_2133 dL_law_2134 hS rfl rfl h0 (by omega) hi ?_
  refine r_arg dL_law_2135 dL_law_2136 dL_law_2138 dL_law_2139 dL_law_2140 hS rfl rfl h0 (by omega) hi ?_
  refine r_arg dL_law_2141 dL_law_2142 dL_law_2144 dL_law_2145 dL_law_2146 hS rfl rfl h0 (by omega) hi ?_
  refine r_aload_n dL_law_2147 (i := 3) rfl rfl ?_
  have c1 := L1_isEnough (g := g) (mc := 1) (ms := 6) (set := sA xs (i + 1)) (s := sA xs (i + 2)) (t := sA xs (i + 3)) hX hI hJ hF hf sA_ri sA_ri sA_ri (Nat.le_refl _) (Nat.le_refl _) (k9_isEnough (set := sA xs (i + 1)) (s := sA xs (i + 2)) (t := sA xs (i + 3)))
  refine r_invW dL_law_2148 c1 (fun E S' h => by cases h.1) mq_L_isEnough ml_L_241 ⟨Nat.le_of_ble_eq_true rfl, Nat.le_of_ble_eq_true rfl⟩ rfl rfl (Nat.le_of_ble_eq_true rfl) (kc' := kc) (ks' := ks) (by show 1 + kc ≤ kc + 12; omega) (by show 6 + ks ≤ ks + 60; omega) (fun o S1 hc => ?_)
  obtain ⟨e1, hk9, hJ1, hF1, -, -⟩ := id hc
  cases e1
  refine r_istore (x := _) dL_law_2151 rfl (Nat.le_of_ble_eq_true rfl) ?_
  refine r_aload_n dL_law_2153 (i := 2) rfl rfl ?_
  refine r_arg dL_law_2154 dL_law_2155 dL_law_2157 dL_law_2158 dL_law_2159 hS rfl rfl h0 (by omega) hi ?_
  refine r_arg dL_law_2160 dL_law_2161 dL_law_2163 dL_law_2164 dL_law_2165 hS rfl rfl h0 (by omega) hi ?_
  refine r_arg dL_law_2166 dL_law_2167 dL_law_2169 dL_law_2170 dL_law_2171 hS rfl rfl h0 (by omega) hi ?_
  have c2 := M1_isEnough (g := g) (mc := 0) (ms := 0) (set := sA xs (i + 1)) (s := sA xs (i + 2)) (t := sA xs (i + 3)) hI hX.2.2.2.1.2.2 hJ1 sA_ri sA_ri sA_ri
  obtain ⟨sz, at', be, ki, wr, wa, nu, bs, bw, bt', hm⟩ := hJ1.1
  refine r_invV dL_law_2172 c2 mq_X10_isEnough ml_L_243 ⟨Nat.le_of_ble_eq_true rfl, Nat.le_of_ble_eq_true rfl⟩ hm rfl rfl rfl (Nat.le_of_ble_eq_true rfl) (kc' := kc) (ks' := ks) (by show 0 + kc ≤ kc; omega) (by show 0 + ks ≤ ks; omega) (fun E S2 h => by obtain ⟨r, h1, h2⟩ := h; cases h1) (fun o2 S2 hq => ?_)
  obtain ⟨r, h1, h2⟩ := id hq
  cases h1
  have hE := e_Q hI hf hK hB hc hq
  exact t_B dL_law_2175 dL_law_2177 dL_law_2178 dL_law_2181 dL_law_2183 dL_law_2188 dL_law_2190 dL_law_2193 dL_law_2194 dL_law_2195 dL_law_2196 dL_law_2198 dL_law_2201 dL_law_2202 dL_law_2205 dL_law_2206 dL_law_2207 dL_law_2212 (by decide) b2i_01 hE (kk _ hE.1)
end LAWK
