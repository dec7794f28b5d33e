/-! ===== the law's cases, to the end ===== -/
theorem law_16 {G : XE} (hG : x_Kn G) (hX : x_KX G) (hN : x_KN G) (hK : x_KS G) (hM : x_KM G) {ad0 : Nat → Nat} {nb0 : Nat} {n t b : Nat} {xs : Nat → Int32} {N : XH} {cells slots : Nat} (hI : L_I n xs t b N) (hn : 7 * t + 7 ≤ n) (h36 : n ≤ 3584) (hc : cells + 12 * b ≤ 300 + 975 * t) (hs : slots + 292 * b ≤ 60000 + 5850 * t) (kk : L_K G ad0 nb0 n xs t) : x_W G mL_law (L_Z G ad0 nb0) N cells slots 1295 (L_l t) [] := by
  obtain ⟨B, ov, I, T, S, rd, tx, gv, P, J, bf, K, tk, ts, tl, tv, su, D, w, v, u, rfl, hB, hI, hJ, hr, hg⟩ := hI
  have hlv := hg.cur hJ.2.1 hI.2.1
  have ht : t + 1 ≤ 512 := by omega
  have hm := hg.mono y_le_rfl (Nat.le_succ t)
  refine X_ld aL_1295 rfl rfl rfl ?_
  refine X_scr (c := 1) aL_1296 aL_1297 aL_1299 (by decide +kernel) aL_1300 aL_1301 (L_56c hB) rfl rfl (by omega) (by omega) ?_
  refine X_scr (c := 2) aL_1302 aL_1303 aL_1305 (by decide +kernel) aL_1306 aL_1307 (L_56c hB) rfl rfl (by omega) (by omega) ?_
  refine X_scr (c := 3) aL_1308 aL_1309 aL_1311 (by decide +kernel) aL_1312 aL_1313 (L_56c hB) rfl rfl (by omega) (by omega) ?_
  refine X_scr (c := 4) aL_1314 aL_1315 aL_1317 (by decide +kernel) aL_1318 aL_1319 (L_56c hB) rfl rfl (by omega) (by omega) ?_
  refine X_scr (c := 5) aL_1320 aL_1321 aL_1323 (by decide +kernel) aL_1324 aL_1325 (L_56c hB) rfl rfl (by omega) (by omega) ?_
  refine X_ld aL_1326 rfl rfl rfl ?_
  refine X_Lw l_L_L_run (W_run hG hX hN hB w hJ.1 hJ.2.1 hlv hK (Nat.le_of_succ_le ht)) aL_1327 rfl rfl (Nat.le_of_ble_eq_true rfl) (Nat.le_of_ble_eq_true rfl) (Nat.le_of_ble_eq_true rfl) (by omega) (by omega) (fun N9 r h => ?_)
  obtain ⟨o, hC, rfl, hA⟩ := h
  rcases hae : a_run (S v) (xs (7 * t + 1)) (xs (7 * t + 2)) (xs (7 * t + 3)) (xs (7 * t + 4)) (xs (7 * t + 5)) with ⟨A1, A2, _ | e1⟩
  · rw [hae] at hC hA
    obtain rfl : N9 = _ := hC
    refine X_st aL_1330 rfl rfl ?_
    refine X_heap L_sw ?_
    refine X_ld aL_1332 rfl rfl rfl ?_
    refine X_scr (c := 1) aL_1333 aL_1334 aL_1336 (by decide +kernel) aL_1337 aL_1338 (L_56m hB) rfl rfl (by omega) (by omega) ?_
    refine X_scr (c := 2) aL_1339 aL_1340 aL_1342 (by decide +kernel) aL_1343 aL_1344 (L_56m hB) rfl rfl (by omega) (by omega) ?_
    refine X_scr (c := 3) aL_1345 aL_1346 aL_1348 (by decide +kernel) aL_1349 aL_1350 (L_56m hB) rfl rfl (by omega) (by omega) ?_
    refine X_scr (c := 4) aL_1351 aL_1352 aL_1354 (by decide +kernel) aL_1355 aL_1356 (L_56m hB) rfl rfl (by omega) (by omega) ?_
    refine X_scr (c := 5) aL_1357 aL_1358 aL_1360 (by decide +kernel) aL_1361 aL_1362 (L_56m hB) rfl rfl (by omega) (by omega) ?_
    refine X_Lr l_L_X11_run rfl (c_run hG 50 v hI.1 hI.2.1 u hI.2.2.1 hI.2.2.2.1 hlv.1.1) aL_1363 rfl rfl (Nat.le_of_ble_eq_true rfl) (Nat.le_of_ble_eq_true rfl) (Nat.le_of_ble_eq_true rfl) (by omega) (by omega) (fun N9 r h => ?_)
    rw [hae] at h
    obtain ⟨gv', P', rfl, rfl⟩ := h
    refine X_loc (L' := [some (.ref 56), some (.ref 64), some (.ref 275), some (.ref 281), some (.int (nI (7 * t))), some (.int (upd I 0 A1 0)), none, none]) ⟨rfl, rfl, rfl, rfl, rfl, congrArg Value.int updI_eq, trivial⟩ ?_
    refine X_Ltl hG aL_1366 aL_1368 aL_1369 aL_1372 aL_1374 aL_1379 aL_1381 aL_1384 aL_1385 aL_1386 aL_1387 aL_1389 aL_1390 aL_1391 aL_1396 ((c_out (by omega) (by omega)).trans x_set_eq) (fun q => hA (updI_eq.symm.trans q)) (by omega) (by omega) ?_
    refine X_heap L_sw.symm ?_
    exact kk _ b _ _ ⟨B, o, _, T, S, rd, tx, gv', P', J, bf, K, tk, ts, tl, tv, su, D, w, v, u, rfl, hB, L_I0 hI, L_I0J hJ, hr, hm⟩ (by omega) (by omega)
  · rw [hae] at hC hA
    obtain ⟨c1, hl1, rfl⟩ := hC
    refine X_st aL_1330 rfl rfl ?_
    refine X_heap L_sw ?_
    refine X_ld aL_1332 rfl rfl rfl ?_
    refine X_scr (c := 1) aL_1333 aL_1334 aL_1336 (by decide +kernel) aL_1337 aL_1338 (L_56m hB) rfl rfl (by omega) (by omega) ?_
    refine X_scr (c := 2) aL_1339 aL_1340 aL_1342 (by decide +kernel) aL_1343 aL_1344 (L_56m hB) rfl rfl (by omega) (by omega) ?_
    refine X_scr (c := 3) aL_1345 aL_1346 aL_1348 (by decide +kernel) aL_1349 aL_1350 (L_56m hB) rfl rfl (by omega) (by omega) ?_
    refine X_scr (c := 4) aL_1351 aL_1352 aL_1354 (by decide +kernel) aL_1355 aL_1356 (L_56m hB) rfl rfl (by omega) (by omega) ?_
    refine X_scr (c := 5) aL_1357 aL_1358 aL_1360 (by decide +kernel) aL_1361 aL_1362 (L_56m hB) rfl rfl (by omega) (by omega) ?_
    refine X_Lr l_L_X11_run rfl (c_run hG 50 v hI.1 hI.2.1 u hI.2.2.1 hI.2.2.2.1 hlv.1.1) aL_1363 rfl rfl (Nat.le_of_ble_eq_true rfl) (Nat.le_of_ble_eq_true rfl) (Nat.le_of_ble_eq_true rfl) (by omega) (by omega) (fun N9 r h => ?_)
    rw [hae] at h
    obtain ⟨gv', P', rfl, rfl⟩ := h
    refine X_loc (L' := [some (.ref 56), some (.ref 64), some (.ref 275), some (.ref 281), some (.int (nI (7 * t))), some (.int (s_ch (upd I 0 A1) v u 0)), none, none]) ⟨rfl, rfl, rfl, rfl, rfl, congrArg Value.int s_ch_0, trivial⟩ ?_
    refine X_Ltl hG aL_1366 aL_1368 aL_1369 aL_1372 aL_1374 aL_1379 aL_1381 aL_1384 aL_1385 aL_1386 aL_1387 aL_1389 aL_1390 aL_1391 aL_1396 ((c_out (by omega) (by omega)).trans x_set_eq) (fun q => hA (s_ch_0.symm.trans q)) (by omega) (by omega) ?_
    refine X_heap L_sw.symm ?_
    exact kk _ b _ _ ⟨B, o, _, T, _, rd, tx, gv', P', _, bf, K, tk, ts, tl, tv, _, _, s_n10 w, s_nx v, s_u8 u, rfl, hB, L_IC hI, L_JC hJ hI.2.2.2.1, hr, hm.push hJ.2.1 hI.2.1 hI.2.2.2.1 hl1⟩ (by omega) (by omega)
theorem law_17 {G : XE} (hG : x_Kn G) (hX : x_KX G) (hN : x_KN G) (hK : x_KS G) (hM : x_KM G) {ad0 : Nat → Nat} {nb0 : Nat} {n t b : Nat} {xs : Nat → Int32} {N : XH} {cells slots : Nat} (hI : L_I n xs t b N) (hn : 7 * t + 7 ≤ n) (h36 : n ≤ 3584) (hc : cells + 12 * b ≤ 300 + 975 * t) (hs : slots + 292 * b ≤ 60000 + 5850 * t) (kk : L_K G ad0 nb0 n xs t) : x_W G mL_law (L_Z G ad0 nb0) N cells slots 1399 (L_l t) [] := by
  obtain ⟨B, ov, I, T, S, rd, tx, gv, P, J, bf, K, tk, ts, tl, tv, su, D, w, v, u, rfl, hB, hI, hJ, hr, hg⟩ := hI
  have hlv := hg.cur hJ.2.1 hI.2.1
  have ht : t + 1 ≤ 512 := by omega
  have hm := hg.mono y_le_rfl (Nat.le_succ t)
  refine X_ld aL_1399 rfl rfl rfl ?_
  refine X_scr (c := 1) aL_1400 aL_1401 aL_1403 (by decide +kernel) aL_1404 aL_1405 (L_56c hB) rfl rfl (by omega) (by omega) ?_
  refine X_scr (c := 2) aL_1406 aL_1407 aL_1409 (by decide +kernel) aL_1410 aL_1411 (L_56c hB) rfl rfl (by omega) (by omega) ?_
  refine X_scr (c := 3) aL_1412 aL_1413 aL_1415 (by decide +kernel) aL_1416 aL_1417 (L_56c hB) rfl rfl (by omega) (by omega) ?_
  refine X_scr (c := 4) aL_1418 aL_1419 aL_1421 (by decide +kernel) aL_1422 aL_1423 (L_56c hB) rfl rfl (by omega) (by omega) ?_
  refine X_scr (c := 5) aL_1424 aL_1425 aL_1427 (by decide +kernel) aL_1428 aL_1429 (L_56c hB) rfl rfl (by omega) (by omega) ?_
  refine X_ld aL_1430 rfl rfl rfl ?_
  refine X_Lw l_L_L_insert (W_insert hG hX hN hB w hJ.1 hJ.2.1 hlv) aL_1431 rfl rfl (Nat.le_of_ble_eq_true rfl) (Nat.le_of_ble_eq_true rfl) (Nat.le_of_ble_eq_true rfl) (by omega) (by omega) (fun N9 r h => ?_)
  obtain ⟨o, hC, rfl, hA⟩ := h
  rcases hae : a_insert (S v) (xs (7 * t + 1)) (xs (7 * t + 2)) (xs (7 * t + 3)) (xs (7 * t + 4)) (xs (7 * t + 5)) with ⟨A1, A2, _ | e1⟩
  · rw [hae] at hC hA
    obtain rfl : N9 = _ := hC
    refine X_st aL_1434 rfl rfl ?_
    refine X_heap L_sw ?_
    refine X_ld aL_1436 rfl rfl rfl ?_
    refine X_scr (c := 1) aL_1437 aL_1438 aL_1440 (by decide +kernel) aL_1441 aL_1442 (L_56m hB) rfl rfl (by omega) (by omega) ?_
    refine X_scr (c := 2) aL_1443 aL_1444 aL_1446 (by decide +kernel) aL_1447 aL_1448 (L_56m hB) rfl rfl (by omega) (by omega) ?_
    refine X_scr (c := 3) aL_1449 aL_1450 aL_1452 (by decide +kernel) aL_1453 aL_1454 (L_56m hB) rfl rfl (by omega) (by omega) ?_
    refine X_scr (c := 4) aL_1455 aL_1456 aL_1458 (by decide +kernel) aL_1459 aL_1460 (L_56m hB) rfl rfl (by omega) (by omega) ?_
    refine X_scr (c := 5) aL_1461 aL_1462 aL_1464 (by decide +kernel) aL_1465 aL_1466 (L_56m hB) rfl rfl (by omega) (by omega) ?_
    refine X_Lr l_L_X11_insert rfl (c_insert hG 50 v hI.1 hI.2.1 u hI.2.2.1 hI.2.2.2.1 hlv.1.1) aL_1467 rfl rfl (Nat.le_of_ble_eq_true rfl) (Nat.le_of_ble_eq_true rfl) (Nat.le_of_ble_eq_true rfl) (by omega) (by omega) (fun N9 r h => ?_)
    rw [hae] at h
    obtain ⟨gv', P', rfl, rfl⟩ := h
    refine X_loc (L' := [some (.ref 56), some (.ref 64), some (.ref 275), some (.ref 281), some (.int (nI (7 * t))), some (.int (upd I 0 A1 0)), none, none]) ⟨rfl, rfl, rfl, rfl, rfl, congrArg Value.int updI_eq, trivial⟩ ?_
    refine X_Ltl hG aL_1470 aL_1472 aL_1473 aL_1476 aL_1478 aL_1483 aL_1485 aL_1488 aL_1489 aL_1490 aL_1491 aL_1493 aL_1494 aL_1495 aL_1500 ((c_out (by omega) (by omega)).trans x_set_eq) (fun q => hA (updI_eq.symm.trans q)) (by omega) (by omega) ?_
    refine X_heap L_sw.symm ?_
    exact kk _ b _ _ ⟨B, o, _, T, S, rd, tx, gv', P', J, bf, K, tk, ts, tl, tv, su, D, w, v, u, rfl, hB, L_I0 hI, L_I0J hJ, hr, hm⟩ (by omega) (by omega)
  · rw [hae] at hC hA
    obtain ⟨c1, hl1, rfl⟩ := hC
    refine X_st aL_1434 rfl rfl ?_
    refine X_heap L_sw ?_
    refine X_ld aL_1436 rfl rfl rfl ?_
    refine X_scr (c := 1) aL_1437 aL_1438 aL_1440 (by decide +kernel) aL_1441 aL_1442 (L_56m hB) rfl rfl (by omega) (by omega) ?_
    refine X_scr (c := 2) aL_1443 aL_1444 aL_1446 (by decide +kernel) aL_1447 aL_1448 (L_56m hB) rfl rfl (by omega) (by omega) ?_
    refine X_scr (c := 3) aL_1449 aL_1450 aL_1452 (by decide +kernel) aL_1453 aL_1454 (L_56m hB) rfl rfl (by omega) (by omega) ?_
    refine X_scr (c := 4) aL_1455 aL_1456 aL_1458 (by decide +kernel) aL_1459 aL_1460 (L_56m hB) rfl rfl (by omega) (by omega) ?_
    refine X_scr (c := 5) aL_1461 aL_1462 aL_1464 (by decide +kernel) aL_1465 aL_1466 (L_56m hB) rfl rfl (by omega) (by omega) ?_
    refine X_Lr l_L_X11_insert rfl (c_insert hG 50 v hI.1 hI.2.1 u hI.2.2.1 hI.2.2.2.1 hlv.1.1) aL_1467 rfl rfl (Nat.le_of_ble_eq_true rfl) (Nat.le_of_ble_eq_true rfl) (Nat.le_of_ble_eq_true rfl) (by omega) (by omega) (fun N9 r h => ?_)
    rw [hae] at h
    obtain ⟨gv', P', rfl, rfl⟩ := h
    refine X_loc (L' := [some (.ref 56), some (.ref 64), some (.ref 275), some (.ref 281), some (.int (nI (7 * t))), some (.int (s_ch (upd I 0 A1) v u 0)), none, none]) ⟨rfl, rfl, rfl, rfl, rfl, congrArg Value.int s_ch_0, trivial⟩ ?_
    refine X_Ltl hG aL_1470 aL_1472 aL_1473 aL_1476 aL_1478 aL_1483 aL_1485 aL_1488 aL_1489 aL_1490 aL_1491 aL_1493 aL_1494 aL_1495 aL_1500 ((c_out (by omega) (by omega)).trans x_set_eq) (fun q => hA (s_ch_0.symm.trans q)) (by omega) (by omega) ?_
    refine X_heap L_sw.symm ?_
    exact kk _ b _ _ ⟨B, o, _, T, _, rd, tx, gv', P', _, bf, K, tk, ts, tl, tv, _, _, s_n10 w, s_nx v, s_u8 u, rfl, hB, L_IC hI, L_JC hJ hI.2.2.2.1, hr, hm.push hJ.2.1 hI.2.1 hI.2.2.2.1 hl1⟩ (by omega) (by omega)
theorem law_18 {G : XE} (hG : x_Kn G) (hX : x_KX G) (hN : x_KN G) (hK : x_KS G) (hM : x_KM G) {ad0 : Nat → Nat} {nb0 : Nat} {n t b : Nat} {xs : Nat → Int32} {N : XH} {cells slots : Nat} (hI : L_I n xs t b N) (hn : 7 * t + 7 ≤ n) (h36 : n ≤ 3584) (hc : cells + 12 * b ≤ 300 + 975 * t) (hs : slots + 292 * b ≤ 60000 + 5850 * t) (kk : L_K G ad0 nb0 n xs t) : x_W G mL_law (L_Z G ad0 nb0) N cells slots 1503 (L_l t) [] := by
  obtain ⟨B, ov, I, T, S, rd, tx, gv, P, J, bf, K, tk, ts, tl, tv, su, D, w, v, u, rfl, hB, hI, hJ, hr, hg⟩ := hI
  have hlv := hg.cur hJ.2.1 hI.2.1
  have ht : t + 1 ≤ 512 := by omega
  have hm := hg.mono y_le_rfl (Nat.le_succ t)
  refine X_ld aL_1503 rfl rfl rfl ?_
  refine X_scr (c := 1) aL_1504 aL_1505 aL_1507 (by decide +kernel) aL_1508 aL_1509 (L_56c hB) rfl rfl (by omega) (by omega) ?_
  refine X_ld aL_1510 rfl rfl rfl ?_
  refine X_Lw l_L_L_delete (W_delete hG hX hN hB w hJ.1 hJ.2.1 hlv) aL_1511 rfl rfl (Nat.le_of_ble_eq_true rfl) (Nat.le_of_ble_eq_true rfl) (Nat.le_of_ble_eq_true rfl) (by omega) (by omega) (fun N9 r h => ?_)
  obtain ⟨o, hC, rfl, hA⟩ := h
  rcases hae : a_delete (S v) (xs (7 * t + 1)) with ⟨A1, A2, _ | e1⟩
  · rw [hae] at hC hA
    obtain rfl : N9 = _ := hC
    refine X_st aL_1514 rfl rfl ?_
    refine X_heap L_sw ?_
    refine X_ld aL_1516 rfl rfl rfl ?_
    refine X_scr (c := 1) aL_1517 aL_1518 aL_1520 (by decide +kernel) aL_1521 aL_1522 (L_56m hB) rfl rfl (by omega) (by omega) ?_
    refine X_Lr l_L_X11_delete rfl (c_delete hG 50 v hI.1 hI.2.1 u hI.2.2.1 hI.2.2.2.1 hlv.1.1) aL_1523 rfl rfl (Nat.le_of_ble_eq_true rfl) (Nat.le_of_ble_eq_true rfl) (Nat.le_of_ble_eq_true rfl) (by omega) (by omega) (fun N9 r h => ?_)
    rw [hae] at h
    obtain ⟨gv', P', rfl, rfl⟩ := h
    refine X_loc (L' := [some (.ref 56), some (.ref 64), some (.ref 275), some (.ref 281), some (.int (nI (7 * t))), some (.int (upd I 0 A1 0)), none, none]) ⟨rfl, rfl, rfl, rfl, rfl, congrArg Value.int updI_eq, trivial⟩ ?_
    refine X_Ltl hG aL_1526 aL_1528 aL_1529 aL_1532 aL_1534 aL_1539 aL_1541 aL_1544 aL_1545 aL_1546 aL_1547 aL_1549 aL_1550 aL_1551 aL_1556 ((c_out (by omega) (by omega)).trans x_set_eq) (fun q => hA (updI_eq.symm.trans q)) (by omega) (by omega) ?_
    refine X_heap L_sw.symm ?_
    exact kk _ b _ _ ⟨B, o, _, T, S, rd, tx, gv', P', J, bf, K, tk, ts, tl, tv, su, D, w, v, u, rfl, hB, L_I0 hI, L_I0J hJ, hr, hm⟩ (by omega) (by omega)
  · rw [hae] at hC hA
    obtain ⟨c1, hl1, rfl⟩ := hC
    refine X_st aL_1514 rfl rfl ?_
    refine X_heap L_sw ?_
    refine X_ld aL_1516 rfl rfl rfl ?_
    refine X_scr (c := 1) aL_1517 aL_1518 aL_1520 (by decide +kernel) aL_1521 aL_1522 (L_56m hB) rfl rfl (by omega) (by omega) ?_
    refine X_Lr l_L_X11_delete rfl (c_delete hG 50 v hI.1 hI.2.1 u hI.2.2.1 hI.2.2.2.1 hlv.1.1) aL_1523 rfl rfl (Nat.le_of_ble_eq_true rfl) (Nat.le_of_ble_eq_true rfl) (Nat.le_of_ble_eq_true rfl) (by omega) (by omega) (fun N9 r h => ?_)
    rw [hae] at h
    obtain ⟨gv', P', rfl, rfl⟩ := h
    refine X_loc (L' := [some (.ref 56), some (.ref 64), some (.ref 275), some (.ref 281), some (.int (nI (7 * t))), some (.int (s_ch (upd I 0 A1) v u 0)), none, none]) ⟨rfl, rfl, rfl, rfl, rfl, congrArg Value.int s_ch_0, trivial⟩ ?_
    refine X_Ltl hG aL_1526 aL_1528 aL_1529 aL_1532 aL_1534 aL_1539 aL_1541 aL_1544 aL_1545 aL_1546 aL_1547 aL_1549 aL_1550 aL_1551 aL_1556 ((c_out (by omega) (by omega)).trans x_set_eq) (fun q => hA (s_ch_0.symm.trans q)) (by omega) (by omega) ?_
    refine X_heap L_sw.symm ?_
    exact kk _ b _ _ ⟨B, o, _, T, _, rd, tx, gv', P', _, bf, K, tk, ts, tl, tv, _, _, s_n10 w, s_nx v, s_u8 u, rfl, hB, L_IC hI, L_JC hJ hI.2.2.2.1, hr, hm.push hJ.2.1 hI.2.1 hI.2.2.2.1 hl1⟩ (by omega) (by omega)
theorem law_19 {G : XE} (hG : x_Kn G) (hX : x_KX G) (hN : x_KN G) (hK : x_KS G) (hM : x_KM G) {ad0 : Nat → Nat} {nb0 : Nat} {n t b : Nat} {xs : Nat → Int32} {N : XH} {cells slots : Nat} (hI : L_I n xs t b N) (hn : 7 * t + 7 ≤ n) (h36 : n ≤ 3584) (hc : cells + 12 * b ≤ 300 + 975 * t) (hs : slots + 292 * b ≤ 60000 + 5850 * t) (kk : L_K G ad0 nb0 n xs t) : x_W G mL_law (L_Z G ad0 nb0) N cells slots 1559 (L_l t) [] := by
  obtain ⟨B, ov, I, T, S, rd, tx, gv, P, J, bf, K, tk, ts, tl, tv, su, D, w, v, u, rfl, hB, hI, hJ, hr, hg⟩ := hI
  have hlv := hg.cur hJ.2.1 hI.2.1
  have ht : t + 1 ≤ 512 := by omega
  have hm := hg.mono y_le_rfl (Nat.le_succ t)
  have h01 : ∀ z A1 A2 (A3 : Option (Nat → Int32)), a_setIndex (S v) (xs (7 * t + 1)) z = (A1, A2, A3) → A2 = 0 ∨ A2 = 1 := fun z A1 A2 A3 hae => by
    have h2 : (a_setIndex (S v) (xs (7 * t + 1)) z).2.1 = A2 := by rw [hae]
    rw [← h2]
    unfold a_setIndex
    split
    · split
      · exact Or.inl rfl
      · exact Or.inr rfl
    · exact Or.inl rfl
  refine X_ld aL_1559 rfl rfl rfl ?_
  refine X_scr (c := 1) aL_1560 aL_1561 aL_1563 (by decide +kernel) aL_1564 aL_1565 (L_56c hB) rfl rfl (by omega) (by omega) ?_
  refine X_scr (c := 2) aL_1566 aL_1567 aL_1569 (by decide +kernel) aL_1570 aL_1571 (L_56c hB) rfl rfl (by omega) (by omega) ?_
  by_cases hz : xs (7 * t + 2) = 0
  · refine X_if_eq aL_1572 (fun _ => ?_) (fun q => absurd hz q)
    refine X_push (v := .int (b2 false)) aL_1579 (by decide +kernel) ?_
    refine X_ld aL_1580 rfl rfl rfl ?_
    refine X_Lw l_L_L_setIndex (W_setIndex hG hX hN hB w hJ.1 hJ.2.1 hlv (z := false)) aL_1581 rfl rfl (Nat.le_of_ble_eq_true rfl) (Nat.le_of_ble_eq_true rfl) (Nat.le_of_ble_eq_true rfl) (by omega) (by omega) (fun N9 r h => ?_)
    obtain ⟨o, hC, rfl, hA⟩ := h
    rcases hae : a_setIndex (S v) (xs (7 * t + 1)) false with ⟨A1, A2, _ | e1⟩
    · rw [hae] at hC hA
      obtain rfl : N9 = _ := hC
      refine X_st aL_1584 rfl rfl ?_
      refine X_heap L_sw ?_
      refine X_ld aL_1586 rfl rfl rfl ?_
      refine X_scr (c := 1) aL_1587 aL_1588 aL_1590 (by decide +kernel) aL_1591 aL_1592 (L_56m hB) rfl rfl (by omega) (by omega) ?_
      refine X_scr (c := 2) aL_1593 aL_1594 aL_1596 (by decide +kernel) aL_1597 aL_1598 (L_56m hB) rfl rfl (by omega) (by omega) ?_
      refine X_if_eq aL_1599 (fun _ => ?_) (fun q => absurd hz q)
      refine X_push (v := .int (b2 false)) aL_1606 (by decide +kernel) ?_
      refine X_Lr l_L_X11_setIndex rfl (c_setIndex hG 50 v hI.1 hI.2.1 u hI.2.2.1 hI.2.2.2.1 hlv.1.1 false) aL_1607 rfl rfl (Nat.le_of_ble_eq_true rfl) (Nat.le_of_ble_eq_true rfl) (Nat.le_of_ble_eq_true rfl) (by omega) (by omega) (fun N9 r h => ?_)
      rw [hae] at h
      obtain ⟨gv', P', rfl, rfl⟩ := h
      refine X_loc (L' := [some (.ref 56), some (.ref 64), some (.ref 275), some (.ref 281), some (.int (nI (7 * t))), some (.int (upd I 0 A1 0)), none, none]) ⟨rfl, rfl, rfl, rfl, rfl, congrArg Value.int updI_eq, trivial⟩ ?_
      refine X_Ltz hG aL_1610 aL_1612 aL_1613 aL_1616 aL_1618 aL_1623 aL_1625 aL_1628 aL_1629 aL_1630 aL_1631 aL_1633 aL_1636 aL_1637 aL_1640 aL_1641 aL_1642 aL_1647 ((c_out (by omega) (by omega)).trans x_set_eq) (fun q => hA (updI_eq.symm.trans q)) (h01 _ _ _ _ hae) (by omega) (by omega) ?_
      refine X_heap L_sw.symm ?_
      exact kk _ b _ _ ⟨B, o, _, T, S, rd, tx, gv', P', J, bf, K, tk, ts, tl, tv, su, D, w, v, u, rfl, hB, L_I0 hI, L_I0J hJ, hr, hm⟩ (by omega) (by omega)
    · rw [hae] at hC hA
      obtain ⟨c1, hl1, rfl⟩ := hC
      refine X_st aL_1584 rfl rfl ?_
      refine X_heap L_sw ?_
      refine X_ld aL_1586 rfl rfl rfl ?_
      refine X_scr (c := 1) aL_1587 aL_1588 aL_1590 (by decide +kernel) aL_1591 aL_1592 (L_56m hB) rfl rfl (by omega) (by omega) ?_
      refine X_scr (c := 2) aL_1593 aL_1594 aL_1596 (by decide +kernel) aL_1597 aL_1598 (L_56m hB) rfl rfl (by omega) (by omega) ?_
      refine X_if_eq aL_1599 (fun _ => ?_) (fun q => absurd hz q)
      refine X_push (v := .int (b2 false)) aL_1606 (by decide +kernel) ?_
      refine X_Lr l_L_X11_setIndex rfl (c_setIndex hG 50 v hI.1 hI.2.1 u hI.2.2.1 hI.2.2.2.1 hlv.1.1 false) aL_1607 rfl rfl (Nat.le_of_ble_eq_true rfl) (Nat.le_of_ble_eq_true rfl) (Nat.le_of_ble_eq_true rfl) (by omega) (by omega) (fun N9 r h => ?_)
      rw [hae] at h
      obtain ⟨gv', P', rfl, rfl⟩ := h
      refine X_loc (L' := [some (.ref 56), some (.ref 64), some (.ref 275), some (.ref 281), some (.int (nI (7 * t))), some (.int (s_ch (upd I 0 A1) v u 0)), none, none]) ⟨rfl, rfl, rfl, rfl, rfl, congrArg Value.int s_ch_0, trivial⟩ ?_
      refine X_Ltz hG aL_1610 aL_1612 aL_1613 aL_1616 aL_1618 aL_1623 aL_1625 aL_1628 aL_1629 aL_1630 aL_1631 aL_1633 aL_1636 aL_1637 aL_1640 aL_1641 aL_1642 aL_1647 ((c_out (by omega) (by omega)).trans x_set_eq) (fun q => hA (s_ch_0.symm.trans q)) (h01 _ _ _ _ hae) (by omega) (by omega) ?_
      refine X_heap L_sw.symm ?_
      exact kk _ b _ _ ⟨B, o, _, T, _, rd, tx, gv', P', _, bf, K, tk, ts, tl, tv, _, _, s_n10 w, s_nx v, s_u8 u, rfl, hB, L_IC hI, L_JC hJ hI.2.2.2.1, hr, hm.push hJ.2.1 hI.2.1 hI.2.2.2.1 hl1⟩ (by omega) (by omega)
  · refine X_if_eq aL_1572 (fun q => absurd q hz) (fun _ => ?_)
    refine X_push (v := .int (b2 true)) aL_1575 (by decide +kernel) ?_
    refine X_goto aL_1576 ?_
    refine X_ld aL_1580 rfl rfl rfl ?_
    refine X_Lw l_L_L_setIndex (W_setIndex hG hX hN hB w hJ.1 hJ.2.1 hlv (z := true)) aL_1581 rfl rfl (Nat.le_of_ble_eq_true rfl) (Nat.le_of_ble_eq_true rfl) (Nat.le_of_ble_eq_true rfl) (by omega) (by omega) (fun N9 r h => ?_)
    obtain ⟨o, hC, rfl, hA⟩ := h
    rcases hae : a_setIndex (S v) (xs (7 * t + 1)) true with ⟨A1, A2, _ | e1⟩
    · rw [hae] at hC hA
      obtain rfl : N9 = _ := hC
      refine X_st aL_1584 rfl rfl ?_
      refine X_heap L_sw ?_
      refine X_ld aL_1586 rfl rfl rfl ?_
      refine X_scr (c := 1) aL_1587 aL_1588 aL_1590 (by decide +kernel) aL_1591 aL_1592 (L_56m hB) rfl rfl (by omega) (by omega) ?_
      refine X_scr (c := 2) aL_1593 aL_1594 aL_1596 (by decide +kernel) aL_1597 aL_1598 (L_56m hB) rfl rfl (by omega) (by omega) ?_
      refine X_if_eq aL_1599 (fun q => absurd q hz) (fun _ => ?_)
      refine X_push (v := .int (b2 true)) aL_1602 (by decide +kernel) ?_
      refine X_goto aL_1603 ?_
      refine X_Lr l_L_X11_setIndex rfl (c_setIndex hG 50 v hI.1 hI.2.1 u hI.2.2.1 hI.2.2.2.1 hlv.1.1 true) aL_1607 rfl rfl (Nat.le_of_ble_eq_true rfl) (Nat.le_of_ble_eq_true rfl) (Nat.le_of_ble_eq_true rfl) (by omega) (by omega) (fun N9 r h => ?_)
      rw [hae] at h
      obtain ⟨gv', P', rfl, rfl⟩ := h
      refine X_loc (L' := [some (.ref 56), some (.ref 64), some (.ref 275), some (.ref 281), some (.int (nI (7 * t))), some (.int (upd I 0 A1 0)), none, none]) ⟨rfl, rfl, rfl, rfl, rfl, congrArg Value.int updI_eq, trivial⟩ ?_
      refine X_Ltz hG aL_1610 aL_1612 aL_1613 aL_1616 aL_1618 aL_1623 aL_1625 aL_1628 aL_1629 aL_1630 aL_1631 aL_1633 aL_1636 aL_1637 aL_1640 aL_1641 aL_1642 aL_1647 ((c_out (by omega) (by omega)).trans x_set_eq) (fun q => hA (updI_eq.symm.trans q)) (h01 _ _ _ _ hae) (by omega) (by omega) ?_
      refine X_heap L_sw.symm ?_
      exact kk _ b _ _ ⟨B, o, _, T, S, rd, tx, gv', P', J, bf, K, tk, ts, tl, tv, su, D, w, v, u, rfl, hB, L_I0 hI, L_I0J hJ, hr, hm⟩ (by omega) (by omega)
    · rw [hae] at hC hA
      obtain ⟨c1, hl1, rfl⟩ := hC
      refine X_st aL_1584 rfl rfl ?_
      refine X_heap L_sw ?_
      refine X_ld aL_1586 rfl rfl rfl ?_
      refine X_scr (c := 1) aL_1587 aL_1588 aL_1590 (by decide +kernel) aL_1591 aL_1592 (L_56m hB) rfl rfl (by omega) (by omega) ?_
      refine X_scr (c := 2) aL_1593 aL_1594 aL_1596 (by decide +kernel) aL_1597 aL_1598 (L_56m hB) rfl rfl (by omega) (by omega) ?_
      refine X_if_eq aL_1599 (fun q => absurd q hz) (fun _ => ?_)
      refine X_push (v := .int (b2 true)) aL_1602 (by decide +kernel) ?_
      refine X_goto aL_1603 ?_
      refine X_Lr l_L_X11_setIndex rfl (c_setIndex hG 50 v hI.1 hI.2.1 u hI.2.2.1 hI.2.2.2.1 hlv.1.1 true) aL_1607 rfl rfl (Nat.le_of_ble_eq_true rfl) (Nat.le_of_ble_eq_true rfl) (Nat.le_of_ble_eq_true rfl) (by omega) (by omega) (fun N9 r h => ?_)
      rw [hae] at h
      obtain ⟨gv', P', rfl, rfl⟩ := h
      refine X_loc (L' := [some (.ref 56), some (.ref 64), some (.ref 275), some (.ref 281), some (.int (nI (7 * t))), some (.int (s_ch (upd I 0 A1) v u 0)), none, none]) ⟨rfl, rfl, rfl, rfl, rfl, congrArg Value.int s_ch_0, trivial⟩ ?_
      refine X_Ltz hG aL_1610 aL_1612 aL_1613 aL_1616 aL_1618 aL_1623 aL_1625 aL_1628 aL_1629 aL_1630 aL_1631 aL_1633 aL_1636 aL_1637 aL_1640 aL_1641 aL_1642 aL_1647 ((c_out (by omega) (by omega)).trans x_set_eq) (fun q => hA (s_ch_0.symm.trans q)) (h01 _ _ _ _ hae) (by omega) (by omega) ?_
      refine X_heap L_sw.symm ?_
      exact kk _ b _ _ ⟨B, o, _, T, _, rd, tx, gv', P', _, bf, K, tk, ts, tl, tv, _, _, s_n10 w, s_nx v, s_u8 u, rfl, hB, L_IC hI, L_JC hJ hI.2.2.2.1, hr, hm.push hJ.2.1 hI.2.1 hI.2.2.2.1 hl1⟩ (by omega) (by omega)
theorem law_20 {G : XE} (hG : x_Kn G) (hX : x_KX G) (hN : x_KN G) (hK : x_KS G) (hM : x_KM G) {ad0 : Nat → Nat} {nb0 : Nat} {n t b : Nat} {xs : Nat → Int32} {N : XH} {cells slots : Nat} (hI : L_I n xs t b N) (hn : 7 * t + 7 ≤ n) (h36 : n ≤ 3584) (hc : cells + 12 * b ≤ 300 + 975 * t) (hs : slots + 292 * b ≤ 60000 + 5850 * t) (kk : L_K G ad0 nb0 n xs t) : x_W G mL_law (L_Z G ad0 nb0) N cells slots 1650 (L_l t) [] := by
  obtain ⟨B, ov, I, T, S, rd, tx, gv, P, J, bf, K, tk, ts, tl, tv, su, D, w, v, u, rfl, hB, hI, hJ, hr, hg⟩ := hI
  have hlv := hg.cur hJ.2.1 hI.2.1
  have ht : t + 1 ≤ 512 := by omega
  have hm := hg.mono y_le_rfl (Nat.le_succ t)
  have hst := y_le.st (L_le (ov := ov) (I := I) (T := T) (S := S) (rd := rd) (tx := tx) (gv := gv) (P := P) hB.2.2.1) hlv.2.2.1
  refine X_ld aL_1650 rfl rfl rfl ?_
  refine X_Lc l_L_X10_analyze rfl (m_analyze hG hX 50 w hJ.1 hJ.2.1 hst hlv.1.1 hlv.2.1 hlv.2.2.2) aL_1651 rfl rfl (Nat.le_of_ble_eq_true rfl) (Nat.le_of_ble_eq_true rfl) (Nat.le_of_ble_eq_true rfl) (by omega) (by omega) (fun N9 r h => ?_)
  obtain ⟨rfl, rfl⟩ := h
  refine X_heap L_sw ?_
  refine X_ld aL_1654 rfl rfl rfl ?_
  refine X_Lr l_L_X11_analyze rfl (c_analyze hG 50 v hI.1 hI.2.1 u hI.2.2.1 hI.2.2.2.1 hlv.1.1) aL_1655 rfl rfl (Nat.le_of_ble_eq_true rfl) (Nat.le_of_ble_eq_true rfl) (Nat.le_of_ble_eq_true rfl) (by omega) (by omega) (fun N9 r h => ?_)
  obtain ⟨gv', P', rfl, rfl⟩ := h
  refine X_icmp_eq aL_1658 (fun _ => ?_) (fun q => absurd (congrArg (· + 1) hlv.2.1.1.2.1.symm) q)
  refine X_heap L_sw.symm ?_
  exact kk _ b _ _ ⟨B, ov, _, T, _, rd, tx, gv', P', _, bf, K, tk, ts, tl, tv, _, _, s_n10 w, s_nx v, s_u8 u, rfl, hB, L_IC hI, L_JC hJ hI.2.2.2.1, hr, hm.push hJ.2.1 hI.2.1 hI.2.2.2.1 (ga_ana hlv).up⟩ (by omega) (by omega)
theorem law_21 {G : XE} (hG : x_Kn G) (hX : x_KX G) (hN : x_KN G) (hK : x_KS G) (hM : x_KM G) {ad0 : Nat → Nat} {nb0 : Nat} {n t b : Nat} {xs : Nat → Int32} {N : XH} {cells slots : Nat} (hI : L_I n xs t b N) (hn : 7 * t + 7 ≤ n) (h36 : n ≤ 3584) (hc : cells + 12 * b ≤ 300 + 975 * t) (hs : slots + 292 * b ≤ 60000 + 5850 * t) (kk : L_K G ad0 nb0 n xs t) : x_W G mL_law (L_Z G ad0 nb0) N cells slots 1663 (L_l t) [] := by
  obtain ⟨B, ov, I, T, S, rd, tx, gv, P, J, bf, K, tk, ts, tl, tv, su, D, w, v, u, rfl, hB, hI, hJ, hr, hg⟩ := hI
  have hlv := hg.cur hJ.2.1 hI.2.1
  have ht : t + 1 ≤ 512 := by omega
  have hm := hg.mono y_le_rfl (Nat.le_succ t)
  refine X_ld aL_1663 rfl rfl rfl ?_
  refine X_Lc l_L_X10_undo rfl (m_undo hG 50 w hJ.1 hJ.2.1) aL_1664 rfl rfl (Nat.le_of_ble_eq_true rfl) (Nat.le_of_ble_eq_true rfl) (Nat.le_of_ble_eq_true rfl) (by omega) (by omega) (fun N9 r h => ?_)
  obtain ⟨rfl, rfl⟩ := h
  refine X_heap L_sw ?_
  refine X_ld aL_1667 rfl rfl rfl ?_
  refine X_Lr l_L_X11_undo rfl (c_undo hG 50 v hI.1 hI.2.1 u hI.2.2.1 hI.2.2.2.1) aL_1668 rfl rfl (Nat.le_of_ble_eq_true rfl) (Nat.le_of_ble_eq_true rfl) (Nat.le_of_ble_eq_true rfl) (by omega) (by omega) (fun N9 r h => ?_)
  obtain ⟨rfl, rfl⟩ := h
  refine X_icmp_eq aL_1671 (fun _ => ?_) (fun q => absurd (L_un hJ.2.2.1 hI.2.2.2.1) q)
  refine X_heap L_sw.symm ?_
  by_cases hu : u = 0
  · have hJ6 : J 6 = 0 := hJ.2.2.1.trans (congrArg nI hu)
    unfold s_unI s_unJ
    rw [if_pos hu, if_pos hJ6]
    exact kk _ b _ _ ⟨B, ov, _, T, S, rd, tx, gv, P, J, bf, K, tk, ts, tl, tv, su, D, w, v, u, rfl, hB, L_I0 hI, L_I0J hJ, hr, hm⟩ (by omega) (by omega)
  · have hJ6 : J 6 ≠ 0 := fun q => hu (L_u0 hJ.2.2.1 hI.2.2.2.1 q)
    unfold s_unI s_unJ
    rw [if_neg hu, if_neg hJ6]
    exact kk _ b _ _ ⟨B, ov, _, T, S, rd, tx, gv, P, _, bf, K, tk, ts, tl, tv, su, D, (w + 9) % 10, (v + 8) % 9, u - 1, rfl, hB, ⟨updI_eq, by omega, (updI_ne (by decide)).trans updI_eq, by omega, (updI_ne (by decide)).trans ((updI_ne (by decide)).trans ((updI_ne (by decide)).trans hI.2.2.2.2.1)), hI.2.2.2.2.2⟩, ⟨(updI_ne (by decide)).trans updI_eq, by omega, updI_eq.trans (L_u1 hJ.2.2.1 hI.2.2.2.1 hu), (updI_ne (by decide)).trans ((updI_ne (by decide)).trans hJ.2.2.2.1), (updI_ne (by decide)).trans ((updI_ne (by decide)).trans (hJ.2.2.2.2.trans ((updI_ne (by decide)).trans ((updI_ne (by decide)).trans (updI_ne (by decide)))).symm))⟩, hr, hm.undo hJ.2.1 hI.2.1 hu hI.2.2.2.1⟩ (by omega) (by omega)
theorem law_22 {G : XE} (hG : x_Kn G) (hX : x_KX G) (hN : x_KN G) (hK : x_KS G) (hM : x_KM G) {ad0 : Nat → Nat} {nb0 : Nat} {n t b : Nat} {xs : Nat → Int32} {N : XH} {cells slots : Nat} (hI : L_I n xs t b N) (hn : 7 * t + 7 ≤ n) (h36 : n ≤ 3584) (hc : cells + 12 * b ≤ 300 + 975 * t) (hs : slots + 292 * b ≤ 60000 + 5850 * t) (kk : L_K G ad0 nb0 n xs t) : x_W G mL_law (L_Z G ad0 nb0) N cells slots 1676 (L_l t) [] := by
  obtain ⟨B, ov, I, T, S, rd, tx, gv, P, J, bf, K, tk, ts, tl, tv, su, D, w, v, u, rfl, hB, hI, hJ, hr, hg⟩ := hI
  have hlv := hg.cur hJ.2.1 hI.2.1
  have ht : t + 1 ≤ 512 := by omega
  have hm := hg.mono y_le_rfl (Nat.le_succ t)
  have hst := y_le.st (L_le (ov := ov) (I := I) (T := T) (S := S) (rd := rd) (tx := tx) (gv := gv) (P := P) hB.2.2.1) hlv.2.2.1
  refine X_ld aL_1676 rfl rfl rfl ?_
  refine X_Lc l_L_X10_checksum rfl (m_checksum hG hX 50 w hJ.1 hJ.2.1 hst hlv.1.1 hlv.2.1) aL_1677 rfl rfl (Nat.le_of_ble_eq_true rfl) (Nat.le_of_ble_eq_true rfl) (Nat.le_of_ble_eq_true rfl) (by omega) (by omega) (fun N9 r h => ?_)
  obtain ⟨rfl, rfl⟩ := h
  refine X_heap L_sw ?_
  refine X_ld aL_1680 rfl rfl rfl ?_
  refine X_Lr l_L_X11_checksum rfl (c_checksum hG 50 v hI.1 hI.2.1 hlv.1.1) aL_1681 rfl rfl (Nat.le_of_ble_eq_true rfl) (Nat.le_of_ble_eq_true rfl) (Nat.le_of_ble_eq_true rfl) (by omega) (by omega) (fun N9 r h => ?_)
  obtain ⟨rfl, rfl⟩ := h
  refine X_bin aL_1684 rfl ?_
  refine X_if_eq aL_1685 (fun _ => ?_) (fun q => absurd (y_cmp0.mpr rfl) q)
  refine X_heap L_sw.symm ?_
  exact kk _ b _ _ ⟨B, ov, _, _, S, rd, tx, gv, P, J, bf, K, tk, ts, tl, tv, su, D, w, v, u, rfl, hB, L_I0 hI, L_I0J hJ, hr, hm⟩ (by omega) (by omega)
