theorem dl_1311 : decode code 1311 = .ok (.aload_n 1, 1) := by decide +kernel
theorem dl_1312 : decode code 1312 = .ok (.aload_n 0, 1) := by decide +kernel
theorem dl_1313 : decode code 1313 = .ok (.iload_n 3, 1) := by decide +kernel
theorem dl_1314 : decode code 1314 = .ok (.iconst 1, 1) := by decide +kernel
theorem dl_1315 : decode code 1315 = .ok (.iadd, 1) := by decide +kernel
theorem dl_1316 : decode code 1316 = .ok (.iaload, 1) := by decide +kernel
theorem dl_1317 : decode code 1317 = .ok (.aload_n 0, 1) := by decide +kernel
theorem dl_1318 : decode code 1318 = .ok (.iload_n 3, 1) := by decide +kernel
theorem dl_1319 : decode code 1319 = .ok (.iconst 2, 1) := by decide +kernel
theorem dl_1320 : decode code 1320 = .ok (.iadd, 1) := by decide +kernel
theorem dl_1321 : decode code 1321 = .ok (.iaload, 1) := by decide +kernel
theorem dl_1322 : decode code 1322 = .ok (.aload_n 0, 1) := by decide +kernel
theorem dl_1323 : decode code 1323 = .ok (.iload_n 3, 1) := by decide +kernel
theorem dl_1324 : decode code 1324 = .ok (.iconst 3, 1) := by decide +kernel
theorem dl_1325 : decode code 1325 = .ok (.iadd, 1) := by decide +kernel
theorem dl_1326 : decode code 1326 = .ok (.iaload, 1) := by decide +kernel
theorem dl_1327 : decode code 1327 = .ok (.ifCond .eq 7, 3) := by decide +kernel
theorem dl_1330 : decode code 1330 = .ok (.iconst 1, 1) := by decide +kernel
theorem dl_1331 : decode code 1331 = .ok (.goto 4, 3) := by decide +kernel
theorem dl_1334 : decode code 1334 = .ok (.iconst 0, 1) := by decide +kernel
theorem dl_1335 : decode code 1335 = .ok (.invokevirtual 118, 3) := by decide +kernel
theorem dl_1338 : decode code 1338 = .ok (.aload_n 2, 1) := by decide +kernel
theorem dl_1339 : decode code 1339 = .ok (.aload_n 0, 1) := by decide +kernel
theorem dl_1340 : decode code 1340 = .ok (.iload_n 3, 1) := by decide +kernel
theorem dl_1341 : decode code 1341 = .ok (.iconst 1, 1) := by decide +kernel
theorem dl_1342 : decode code 1342 = .ok (.iadd, 1) := by decide +kernel
theorem dl_1343 : decode code 1343 = .ok (.iaload, 1) := by decide +kernel
theorem dl_1344 : decode code 1344 = .ok (.aload_n 0, 1) := by decide +kernel
theorem dl_1345 : decode code 1345 = .ok (.iload_n 3, 1) := by decide +kernel
theorem dl_1346 : decode code 1346 = .ok (.iconst 2, 1) := by decide +kernel
theorem dl_1347 : decode code 1347 = .ok (.iadd, 1) := by decide +kernel
theorem dl_1348 : decode code 1348 = .ok (.iaload, 1) := by decide +kernel
theorem dl_1349 : decode code 1349 = .ok (.aload_n 0, 1) := by decide +kernel
theorem dl_1350 : decode code 1350 = .ok (.iload_n 3, 1) := by decide +kernel
theorem dl_1351 : decode code 1351 = .ok (.iconst 3, 1) := by decide +kernel
theorem dl_1352 : decode code 1352 = .ok (.iadd, 1) := by decide +kernel
theorem dl_1353 : decode code 1353 = .ok (.iaload, 1) := by decide +kernel
theorem dl_1354 : decode code 1354 = .ok (.ifCond .eq 7, 3) := by decide +kernel
theorem dl_1357 : decode code 1357 = .ok (.iconst 1, 1) := by decide +kernel
theorem dl_1358 : decode code 1358 = .ok (.goto 4, 3) := by decide +kernel
theorem dl_1361 : decode code 1361 = .ok (.iconst 0, 1) := by decide +kernel
theorem dl_1362 : decode code 1362 = .ok (.invokevirtual 121, 3) := by decide +kernel
theorem dl_1365 : decode code 1365 = .ok (.if_icmp .eq 216, 3) := by decide +kernel
theorem kl_118 : Jvm.Cond.methodLink R_law 118 yX11_soft ∈ qm_all := List.mem_filter.mpr ⟨by decide +kernel, rfl⟩
theorem kl_121 : Jvm.Cond.methodLink R_law 121 yX12_soft ∈ qm_all := List.mem_filter.mpr ⟨by decide +kernel, rfl⟩
set_option maxRecDepth 20000 in
theorem law_24 {p : Program} {l : Launch} {e : Env} {s : State} {m : MethodId} {below : List Frame} {meth : Method} {c : Code} {b L : Nat} {xs : Nat → Int32} {g : qm_G} {cells slots i : Nat} {h : qm_H} (C : qL_C p s m meth c b L xs g) (hL : L ≤ 3072) (hik : i + 6 ≤ L) (hcs : cells ≤ 600000 ∧ slots ≤ 7302250) {r : Int32} {h1 h2 : qm_H} (q1 : qX11_soft 0 (xs (i + 1)) (xs (i + 2)) (qL_b (xs (i + 3))) h = some (r, h1)) (q2 : qX12_soft 62 (xs (i + 1)) (xs (i + 2)) (qL_b (xs (i + 3))) h1 = some (r, h2)) (kk : qL_W p l e s m below meth c b g cells slots i 1581 [] h2) : qL_W p l e s m below meth c b g cells slots i 1311 [] h := by
  refine qL_ldx C dl_1311 ?_
  refine qL_arg C (k := 1) (by decide) (by omega) hL dl_1312 dl_1313 dl_1314 dl_1315 dl_1316 ?_
  refine qL_arg C (k := 2) (by decide) (by omega) hL dl_1317 dl_1318 dl_1319 dl_1320 dl_1321 ?_
  refine qL_arg C (k := 3) (by decide) (by omega) hL dl_1322 dl_1323 dl_1324 dl_1325 dl_1326 ?_
  refine qL_bool C dl_1327 dl_1330 dl_1331 dl_1334 ?_
  refine qL_call C (vs := [qm_i (xs (i + 1)), qm_i (xs (i + 2)), qm_i (qL_b (xs (i + 3)))]) (S := []) (ci := 11) (a := 0) (o := (some (qm_i r), h1)) sX11_soft ⟨by decide, by decide⟩ jX11_soft kl_118 uRX11 ⟨by decide, by decide, rfl⟩ iX11_soft rfl C.2.2.2.2.2.2.1 (qL_ints _ (by intro v hv; simp only [List.mem_cons, List.not_mem_nil, or_false] at hv; rcases hv with rfl | rfl | rfl <;> exact ⟨_, rfl⟩)) rfl (qm_mp (G := qm_Gi) q1) (Nat.le_of_ble_eq_true rfl) dl_1335 ?_ hcs
  show qL_W p l e s m below meth c b g cells slots i 1338 [qm_i r] h1
  refine qL_ldm C dl_1338 ?_
  refine qL_arg C (k := 1) (by decide) (by omega) hL dl_1339 dl_1340 dl_1341 dl_1342 dl_1343 ?_
  refine qL_arg C (k := 2) (by decide) (by omega) hL dl_1344 dl_1345 dl_1346 dl_1347 dl_1348 ?_
  refine qL_arg C (k := 3) (by decide) (by omega) hL dl_1349 dl_1350 dl_1351 dl_1352 dl_1353 ?_
  refine qL_bool C dl_1354 dl_1357 dl_1358 dl_1361 ?_
  refine qL_call C (vs := [qm_i (xs (i + 1)), qm_i (xs (i + 2)), qm_i (qL_b (xs (i + 3)))]) (S := [qm_i r]) (ci := 12) (a := 62) (o := (some (qm_i r), h2)) sX12_soft ⟨by decide, by decide⟩ jX12_soft kl_121 uRX12 ⟨by decide, by decide, rfl⟩ iX12_soft rfl C.2.2.2.2.2.2.2 (qL_ints _ (by intro v hv; simp only [List.mem_cons, List.not_mem_nil, or_false] at hv; rcases hv with rfl | rfl | rfl <;> exact ⟨_, rfl⟩)) rfl (qm_mp (G := qm_Gi) q2) (Nat.le_of_ble_eq_true rfl) dl_1362 ?_ hcs
  show qL_W p l e s m below meth c b g cells slots i 1365 [qm_i r, qm_i r] h2
  exact qL_cmp C dl_1365 (tgt := 1581) (by decide) kk

theorem dl_1370 : decode code 1370 = .ok (.aload_n 1, 1) := by decide +kernel
theorem dl_1371 : decode code 1371 = .ok (.aload_n 0, 1) := by decide +kernel
theorem dl_1372 : decode code 1372 = .ok (.iload_n 3, 1) := by decide +kernel
theorem dl_1373 : decode code 1373 = .ok (.iconst 1, 1) := by decide +kernel
theorem dl_1374 : decode code 1374 = .ok (.iadd, 1) := by decide +kernel
theorem dl_1375 : decode code 1375 = .ok (.iaload, 1) := by decide +kernel
theorem dl_1376 : decode code 1376 = .ok (.aload_n 0, 1) := by decide +kernel
theorem dl_1377 : decode code 1377 = .ok (.iload_n 3, 1) := by decide +kernel
theorem dl_1378 : decode code 1378 = .ok (.iconst 2, 1) := by decide +kernel
theorem dl_1379 : decode code 1379 = .ok (.iadd, 1) := by decide +kernel
theorem dl_1380 : decode code 1380 = .ok (.iaload, 1) := by decide +kernel
theorem dl_1381 : decode code 1381 = .ok (.aload_n 0, 1) := by decide +kernel
theorem dl_1382 : decode code 1382 = .ok (.iload_n 3, 1) := by decide +kernel
theorem dl_1383 : decode code 1383 = .ok (.iconst 3, 1) := by decide +kernel
theorem dl_1384 : decode code 1384 = .ok (.iadd, 1) := by decide +kernel
theorem dl_1385 : decode code 1385 = .ok (.iaload, 1) := by decide +kernel
theorem dl_1386 : decode code 1386 = .ok (.invokevirtual 122, 3) := by decide +kernel
theorem dl_1389 : decode code 1389 = .ok (.aload_n 2, 1) := by decide +kernel
theorem dl_1390 : decode code 1390 = .ok (.aload_n 0, 1) := by decide +kernel
theorem dl_1391 : decode code 1391 = .ok (.iload_n 3, 1) := by decide +kernel
theorem dl_1392 : decode code 1392 = .ok (.iconst 1, 1) := by decide +kernel
theorem dl_1393 : decode code 1393 = .ok (.iadd, 1) := by decide +kernel
theorem dl_1394 : decode code 1394 = .ok (.iaload, 1) := by decide +kernel
theorem dl_1395 : decode code 1395 = .ok (.aload_n 0, 1) := by decide +kernel
theorem dl_1396 : decode code 1396 = .ok (.iload_n 3, 1) := by decide +kernel
theorem dl_1397 : decode code 1397 = .ok (.iconst 2, 1) := by decide +kernel
theorem dl_1398 : decode code 1398 = .ok (.iadd, 1) := by decide +kernel
theorem dl_1399 : decode code 1399 = .ok (.iaload, 1) := by decide +kernel
theorem dl_1400 : decode code 1400 = .ok (.aload_n 0, 1) := by decide +kernel
theorem dl_1401 : decode code 1401 = .ok (.iload_n 3, 1) := by decide +kernel
theorem dl_1402 : decode code 1402 = .ok (.iconst 3, 1) := by decide +kernel
theorem dl_1403 : decode code 1403 = .ok (.iadd, 1) := by decide +kernel
theorem dl_1404 : decode code 1404 = .ok (.iaload, 1) := by decide +kernel
theorem dl_1405 : decode code 1405 = .ok (.invokevirtual 125, 3) := by decide +kernel
theorem dl_1408 : decode code 1408 = .ok (.if_icmp .eq 173, 3) := by decide +kernel
theorem kl_122 : Jvm.Cond.methodLink R_law 122 yX11_tunnel ∈ qm_all := List.mem_filter.mpr ⟨by decide +kernel, rfl⟩
theorem kl_125 : Jvm.Cond.methodLink R_law 125 yX12_tunnel ∈ qm_all := List.mem_filter.mpr ⟨by decide +kernel, rfl⟩
set_option maxRecDepth 20000 in
theorem law_25 {p : Program} {l : Launch} {e : Env} {s : State} {m : MethodId} {below : List Frame} {meth : Method} {c : Code} {b L : Nat} {xs : Nat → Int32} {g : qm_G} {cells slots i : Nat} {h : qm_H} (C : qL_C p s m meth c b L xs g) (hL : L ≤ 3072) (hik : i + 6 ≤ L) (hcs : cells ≤ 600000 ∧ slots ≤ 7302250) {r : Int32} {h1 h2 : qm_H} (q1 : qX11_tunnel 0 (xs (i + 1)) (xs (i + 2)) (xs (i + 3)) h = some (r, h1)) (q2 : qX12_tunnel 62 (xs (i + 1)) (xs (i + 2)) (xs (i + 3)) h1 = some (r, h2)) (kk : qL_W p l e s m below meth c b g cells slots i 1581 [] h2) : qL_W p l e s m below meth c b g cells slots i 1370 [] h := by
  refine qL_ldx C dl_1370 ?_
  refine qL_arg C (k := 1) (by decide) (by omega) hL dl_1371 dl_1372 dl_1373 dl_1374 dl_1375 ?_
  refine qL_arg C (k := 2) (by decide) (by omega) hL dl_1376 dl_1377 dl_1378 dl_1379 dl_1380 ?_
  refine qL_arg C (k := 3) (by decide) (by omega) hL dl_1381 dl_1382 dl_1383 dl_1384 dl_1385 ?_
  refine qL_call C (vs := [qm_i (xs (i + 1)), qm_i (xs (i + 2)), qm_i (xs (i + 3))]) (S := []) (ci := 11) (a := 0) (o := (some (qm_i r), h1)) sX11_tunnel ⟨by decide, by decide⟩ jX11_tunnel kl_122 uRX11 ⟨by decide, by decide, rfl⟩ iX11_tunnel rfl C.2.2.2.2.2.2.1 (qL_ints _ (by intro v hv; simp only [List.mem_cons, List.not_mem_nil, or_false] at hv; rcases hv with rfl | rfl | rfl <;> exact ⟨_, rfl⟩)) rfl (qm_mp (G := qm_Gi) q1) (Nat.le_of_ble_eq_true rfl) dl_1386 ?_ hcs
  show qL_W p l e s m below meth c b g cells slots i 1389 [qm_i r] h1
  refine qL_ldm C dl_1389 ?_
  refine qL_arg C (k := 1) (by decide) (by omega) hL dl_1390 dl_1391 dl_1392 dl_1393 dl_1394 ?_
  refine qL_arg C (k := 2) (by decide) (by omega) hL dl_1395 dl_1396 dl_1397 dl_1398 dl_1399 ?_
  refine qL_arg C (k := 3) (by decide) (by omega) hL dl_1400 dl_1401 dl_1402 dl_1403 dl_1404 ?_
  refine qL_call C (vs := [qm_i (xs (i + 1)), qm_i (xs (i + 2)), qm_i (xs (i + 3))]) (S := [qm_i r]) (ci := 12) (a := 62) (o := (some (qm_i r), h2)) sX12_tunnel ⟨by decide, by decide⟩ jX12_tunnel kl_125 uRX12 ⟨by decide, by decide, rfl⟩ iX12_tunnel rfl C.2.2.2.2.2.2.2 (qL_ints _ (by intro v hv; simp only [List.mem_cons, List.not_mem_nil, or_false] at hv; rcases hv with rfl | rfl | rfl <;> exact ⟨_, rfl⟩)) rfl (qm_mp (G := qm_Gi) q2) (Nat.le_of_ble_eq_true rfl) dl_1405 ?_ hcs
  show qL_W p l e s m below meth c b g cells slots i 1408 [qm_i r, qm_i r] h2
  exact qL_cmp C dl_1408 (tgt := 1581) (by decide) kk

theorem dl_1413 : decode code 1413 = .ok (.aload_n 1, 1) := by decide +kernel
theorem dl_1414 : decode code 1414 = .ok (.aload_n 0, 1) := by decide +kernel
theorem dl_1415 : decode code 1415 = .ok (.iload_n 3, 1) := by decide +kernel
theorem dl_1416 : decode code 1416 = .ok (.iconst 1, 1) := by decide +kernel
theorem dl_1417 : decode code 1417 = .ok (.iadd, 1) := by decide +kernel
theorem dl_1418 : decode code 1418 = .ok (.iaload, 1) := by decide +kernel
theorem dl_1419 : decode code 1419 = .ok (.aload_n 0, 1) := by decide +kernel
theorem dl_1420 : decode code 1420 = .ok (.iload_n 3, 1) := by decide +kernel
theorem dl_1421 : decode code 1421 = .ok (.iconst 2, 1) := by decide +kernel
theorem dl_1422 : decode code 1422 = .ok (.iadd, 1) := by decide +kernel
theorem dl_1423 : decode code 1423 = .ok (.iaload, 1) := by decide +kernel
theorem dl_1424 : decode code 1424 = .ok (.invokevirtual 126, 3) := by decide +kernel
theorem dl_1427 : decode code 1427 = .ok (.aload_n 2, 1) := by decide +kernel
theorem dl_1428 : decode code 1428 = .ok (.aload_n 0, 1) := by decide +kernel
theorem dl_1429 : decode code 1429 = .ok (.iload_n 3, 1) := by decide +kernel
theorem dl_1430 : decode code 1430 = .ok (.iconst 1, 1) := by decide +kernel
theorem dl_1431 : decode code 1431 = .ok (.iadd, 1) := by decide +kernel
theorem dl_1432 : decode code 1432 = .ok (.iaload, 1) := by decide +kernel
theorem dl_1433 : decode code 1433 = .ok (.aload_n 0, 1) := by decide +kernel
theorem dl_1434 : decode code 1434 = .ok (.iload_n 3, 1) := by decide +kernel
theorem dl_1435 : decode code 1435 = .ok (.iconst 2, 1) := by decide +kernel
theorem dl_1436 : decode code 1436 = .ok (.iadd, 1) := by decide +kernel
theorem dl_1437 : decode code 1437 = .ok (.iaload, 1) := by decide +kernel
theorem dl_1438 : decode code 1438 = .ok (.invokevirtual 129, 3) := by decide +kernel
theorem dl_1441 : decode code 1441 = .ok (.if_icmp .eq 140, 3) := by decide +kernel
theorem kl_126 : Jvm.Cond.methodLink R_law 126 yX11_mirrored ∈ qm_all := List.mem_filter.mpr ⟨by decide +kernel, rfl⟩
theorem kl_129 : Jvm.Cond.methodLink R_law 129 yX12_mirrored ∈ qm_all := List.mem_filter.mpr ⟨by decide +kernel, rfl⟩
set_option maxRecDepth 20000 in
theorem law_26 {p : Program} {l : Launch} {e : Env} {s : State} {m : MethodId} {below : List Frame} {meth : Method} {c : Code} {b L : Nat} {xs : Nat → Int32} {g : qm_G} {cells slots i : Nat} {h : qm_H} (C : qL_C p s m meth c b L xs g) (hL : L ≤ 3072) (hik : i + 6 ≤ L) (hcs : cells ≤ 600000 ∧ slots ≤ 7302250) {r : Int32} {h1 h2 : qm_H} (q1 : qX11_mirrored 0 (xs (i + 1)) (xs (i + 2)) h = some (r, h1)) (q2 : qX12_mirrored 62 (xs (i + 1)) (xs (i + 2)) h1 = some (r, h2)) (kk : qL_W p l e s m below meth c b g cells slots i 1581 [] h2) : qL_W p l e s m below meth c b g cells slots i 1413 [] h := by
  refine qL_ldx C dl_1413 ?_
  refine qL_arg C (k := 1) (by decide) (by omega) hL dl_1414 dl_1415 dl_1416 dl_1417 dl_1418 ?_
  refine qL_arg C (k := 2) (by decide) (by omega) hL dl_1419 dl_1420 dl_1421 dl_1422 dl_1423 ?_
  refine qL_call C (vs := [qm_i (xs (i + 1)), qm_i (xs (i + 2))]) (S := []) (ci := 11) (a := 0) (o := (some (qm_i r), h1)) sX11_mirrored ⟨by decide, by decide⟩ jX11_mirrored kl_126 uRX11 ⟨by decide, by decide, rfl⟩ iX11_mirrored rfl C.2.2.2.2.2.2.1 (qL_ints _ (by intro v hv; simp only [List.mem_cons, List.not_mem_nil, or_false] at hv; rcases hv with rfl | rfl <;> exact ⟨_, rfl⟩)) rfl (qm_mp (G := qm_Gi) q1) (Nat.le_of_ble_eq_true rfl) dl_1424 ?_ hcs
  show qL_W p l e s m below meth c b g cells slots i 1427 [qm_i r] h1
  refine qL_ldm C dl_1427 ?_
  refine qL_arg C (k := 1) (by decide) (by omega) hL dl_1428 dl_1429 dl_1430 dl_1431 dl_1432 ?_
  refine qL_arg C (k := 2) (by decide) (by omega) hL dl_1433 dl_1434 dl_1435 dl_1436 dl_1437 ?_
  refine qL_call C (vs := [qm_i (xs (i + 1)), qm_i (xs (i + 2))]) (S := [qm_i r]) (ci := 12) (a := 62) (o := (some (qm_i r), h2)) sX12_mirrored ⟨by decide, by decide⟩ jX12_mirrored kl_129 uRX12 ⟨by decide, by decide, rfl⟩ iX12_mirrored rfl C.2.2.2.2.2.2.2 (qL_ints _ (by intro v hv; simp only [List.mem_cons, List.not_mem_nil, or_false] at hv; rcases hv with rfl | rfl <;> exact ⟨_, rfl⟩)) rfl (qm_mp (G := qm_Gi) q2) (Nat.le_of_ble_eq_true rfl) dl_1438 ?_ hcs
  show qL_W p l e s m below meth c b g cells slots i 1441 [qm_i r, qm_i r] h2
  exact qL_cmp C dl_1441 (tgt := 1581) (by decide) kk

theorem dl_1446 : decode code 1446 = .ok (.aload_n 1, 1) := by decide +kernel
theorem dl_1447 : decode code 1447 = .ok (.aload_n 0, 1) := by decide +kernel
theorem dl_1448 : decode code 1448 = .ok (.iload_n 3, 1) := by decide +kernel
theorem dl_1449 : decode code 1449 = .ok (.iconst 1, 1) := by decide +kernel
theorem dl_1450 : decode code 1450 = .ok (.iadd, 1) := by decide +kernel
theorem dl_1451 : decode code 1451 = .ok (.iaload, 1) := by decide +kernel
theorem dl_1452 : decode code 1452 = .ok (.aload_n 0, 1) := by decide +kernel
theorem dl_1453 : decode code 1453 = .ok (.iload_n 3, 1) := by decide +kernel
theorem dl_1454 : decode code 1454 = .ok (.iconst 2, 1) := by decide +kernel
theorem dl_1455 : decode code 1455 = .ok (.iadd, 1) := by decide +kernel
theorem dl_1456 : decode code 1456 = .ok (.iaload, 1) := by decide +kernel
theorem dl_1457 : decode code 1457 = .ok (.aload_n 0, 1) := by decide +kernel
theorem dl_1458 : decode code 1458 = .ok (.iload_n 3, 1) := by decide +kernel
theorem dl_1459 : decode code 1459 = .ok (.iconst 3, 1) := by decide +kernel
theorem dl_1460 : decode code 1460 = .ok (.iadd, 1) := by decide +kernel
theorem dl_1461 : decode code 1461 = .ok (.iaload, 1) := by decide +kernel
theorem dl_1462 : decode code 1462 = .ok (.invokevirtual 130, 3) := by decide +kernel
theorem dl_1465 : decode code 1465 = .ok (.aload_n 2, 1) := by decide +kernel
theorem dl_1466 : decode code 1466 = .ok (.aload_n 0, 1) := by decide +kernel
theorem dl_1467 : decode code 1467 = .ok (.iload_n 3, 1) := by decide +kernel
theorem dl_1468 : decode code 1468 = .ok (.iconst 1, 1) := by decide +kernel
theorem dl_1469 : decode code 1469 = .ok (.iadd, 1) := by decide +kernel
theorem dl_1470 : decode code 1470 = .ok (.iaload, 1) := by decide +kernel
theorem dl_1471 : decode code 1471 = .ok (.aload_n 0, 1) := by decide +kernel
theorem dl_1472 : decode code 1472 = .ok (.iload_n 3, 1) := by decide +kernel
theorem dl_1473 : decode code 1473 = .ok (.iconst 2, 1) := by decide +kernel
theorem dl_1474 : decode code 1474 = .ok (.iadd, 1) := by decide +kernel
theorem dl_1475 : decode code 1475 = .ok (.iaload, 1) := by decide +kernel
theorem dl_1476 : decode code 1476 = .ok (.aload_n 0, 1) := by decide +kernel
theorem dl_1477 : decode code 1477 = .ok (.iload_n 3, 1) := by decide +kernel
theorem dl_1478 : decode code 1478 = .ok (.iconst 3, 1) := by decide +kernel
theorem dl_1479 : decode code 1479 = .ok (.iadd, 1) := by decide +kernel
theorem dl_1480 : decode code 1480 = .ok (.iaload, 1) := by decide +kernel
theorem dl_1481 : decode code 1481 = .ok (.invokevirtual 133, 3) := by decide +kernel
theorem dl_1484 : decode code 1484 = .ok (.if_icmp .eq 97, 3) := by decide +kernel
theorem kl_130 : Jvm.Cond.methodLink R_law 130 yX11_divided ∈ qm_all := List.mem_filter.mpr ⟨by decide +kernel, rfl⟩
theorem kl_133 : Jvm.Cond.methodLink R_law 133 yX12_divided ∈ qm_all := List.mem_filter.mpr ⟨by decide +kernel, rfl⟩
set_option maxRecDepth 20000 in
theorem law_27 {p : Program} {l : Launch} {e : Env} {s : State} {m : MethodId} {below : List Frame} {meth : Method} {c : Code} {b L : Nat} {xs : Nat → Int32} {g : qm_G} {cells slots i : Nat} {h : qm_H} (C : qL_C p s m meth c b L xs g) (hL : L ≤ 3072) (hik : i + 6 ≤ L) (hcs : cells ≤ 600000 ∧ slots ≤ 7302250) {r : Int32} {h1 h2 : qm_H} (q1 : qX11_divided 0 (xs (i + 1)) (xs (i + 2)) (xs (i + 3)) h = some (r, h1)) (q2 : qX12_divided 62 (xs (i + 1)) (xs (i + 2)) (xs (i + 3)) h1 = some (r, h2)) (kk : qL_W p l e s m below meth c b g cells slots i 1581 [] h2) : qL_W p l e s m below meth c b g cells slots i 1446 [] h := by
  refine qL_ldx C dl_1446 ?_
  refine qL_arg C (k := 1) (by decide) (by omega) hL dl_1447 dl_1448 dl_1449 dl_1450 dl_1451 ?_
  refine qL_arg C (k := 2) (by decide) (by omega) hL dl_1452 dl_1453 dl_1454 dl_1455 dl_1456 ?_
  refine qL_arg C (k := 3) (by decide) (by omega) hL dl_1457 dl_1458 dl_1459 dl_1460 dl_1461 ?_
  refine qL_call C (vs := [qm_i (xs (i + 1)), qm_i (xs (i + 2)), qm_i (xs (i + 3))]) (S := []) (ci := 11) (a := 0) (o := (some (qm_i r), h1)) sX11_divided ⟨by decide, by decide⟩ jX11_divided kl_130 uRX11 ⟨by decide, by decide, rfl⟩ iX11_divided rfl C.2.2.2.2.2.2.1 (qL_ints _ (by intro v hv; simp only [List.mem_cons, List.not_mem_nil, or_false] at hv; rcases hv with rfl | rfl | rfl <;> exact ⟨_, rfl⟩)) rfl (qm_mp (G := qm_Gi) q1) (Nat.le_of_ble_eq_true rfl) dl_1462 ?_ hcs
  show qL_W p l e s m below meth c b g cells slots i 1465 [qm_i r] h1
  refine qL_ldm C dl_1465 ?_
  refine qL_arg C (k := 1) (by decide) (by omega) hL dl_1466 dl_1467 dl_1468 dl_1469 dl_1470 ?_
  refine qL_arg C (k := 2) (by decide) (by omega) hL dl_1471 dl_1472 dl_1473 dl_1474 dl_1475 ?_
  refine qL_arg C (k := 3) (by decide) (by omega) hL dl_1476 dl_1477 dl_1478 dl_1479 dl_1480 ?_
  refine qL_call C (vs := [qm_i (xs (i + 1)), qm_i (xs (i + 2)), qm_i (xs (i + 3))]) (S := [qm_i r]) (ci := 12) (a := 62) (o := (some (qm_i r), h2)) sX12_divided ⟨by decide, by decide⟩ jX12_divided kl_133 uRX12 ⟨by decide, by decide, rfl⟩ iX12_divided rfl C.2.2.2.2.2.2.2 (qL_ints _ (by intro v hv; simp only [List.mem_cons, List.not_mem_nil, or_false] at hv; rcases hv with rfl | rfl | rfl <;> exact ⟨_, rfl⟩)) rfl (qm_mp (G := qm_Gi) q2) (Nat.le_of_ble_eq_true rfl) dl_1481 ?_ hcs
  show qL_W p l e s m below meth c b g cells slots i 1484 [qm_i r, qm_i r] h2
  exact qL_cmp C dl_1484 (tgt := 1581) (by decide) kk

theorem dl_1489 : decode code 1489 = .ok (.aload_n 1, 1) := by decide +kernel
theorem dl_1490 : decode code 1490 = .ok (.aload_n 0, 1) := by decide +kernel
theorem dl_1491 : decode code 1491 = .ok (.iload_n 3, 1) := by decide +kernel
theorem dl_1492 : decode code 1492 = .ok (.iconst 1, 1) := by decide +kernel
theorem dl_1493 : decode code 1493 = .ok (.iadd, 1) := by decide +kernel
theorem dl_1494 : decode code 1494 = .ok (.iaload, 1) := by decide +kernel
theorem dl_1495 : decode code 1495 = .ok (.invokevirtual 134, 3) := by decide +kernel
theorem dl_1498 : decode code 1498 = .ok (.aload_n 2, 1) := by decide +kernel
theorem dl_1499 : decode code 1499 = .ok (.aload_n 0, 1) := by decide +kernel
theorem dl_1500 : decode code 1500 = .ok (.iload_n 3, 1) := by decide +kernel
theorem dl_1501 : decode code 1501 = .ok (.iconst 1, 1) := by decide +kernel
theorem dl_1502 : decode code 1502 = .ok (.iadd, 1) := by decide +kernel
theorem dl_1503 : decode code 1503 = .ok (.iaload, 1) := by decide +kernel
theorem dl_1504 : decode code 1504 = .ok (.invokevirtual 137, 3) := by decide +kernel
theorem dl_1507 : decode code 1507 = .ok (.if_icmp .eq 74, 3) := by decide +kernel
theorem kl_134 : Jvm.Cond.methodLink R_law 134 yX11_kept ∈ qm_all := List.mem_filter.mpr ⟨by decide +kernel, rfl⟩
theorem kl_137 : Jvm.Cond.methodLink R_law 137 yX12_kept ∈ qm_all := List.mem_filter.mpr ⟨by decide +kernel, rfl⟩
set_option maxRecDepth 20000 in
theorem law_28 {p : Program} {l : Launch} {e : Env} {s : State} {m : MethodId} {below : List Frame} {meth : Method} {c : Code} {b L : Nat} {xs : Nat → Int32} {g : qm_G} {cells slots i : Nat} {h : qm_H} (C : qL_C p s m meth c b L xs g) (hL : L ≤ 3072) (hik : i + 6 ≤ L) (hcs : cells ≤ 600000 ∧ slots ≤ 7302250) {r : Int32} {h1 h2 : qm_H} (q1 : qX11_kept 0 (xs (i + 1)) h = some (r, h1)) (q2 : qX12_kept 62 (xs (i + 1)) h1 = some (r, h2)) (kk : qL_W p l e s m below meth c b g cells slots i 1581 [] h2) : qL_W p l e s m below meth c b g cells slots i 1489 [] h := by
  refine qL_ldx C dl_1489 ?_
  refine qL_arg C (k := 1) (by decide) (by omega) hL dl_1490 dl_1491 dl_1492 dl_1493 dl_1494 ?_
  refine qL_call C (vs := [qm_i (xs (i + 1))]) (S := []) (ci := 11) (a := 0) (o := (some (qm_i r), h1)) sX11_kept ⟨by decide, by decide⟩ jX11_kept kl_134 uRX11 ⟨by decide, by decide, rfl⟩ iX11_kept rfl C.2.2.2.2.2.2.1 (qL_ints _ (by intro v hv; simp only [List.mem_cons, List.not_mem_nil, or_false] at hv; rcases hv with rfl <;> exact ⟨_, rfl⟩)) rfl (qm_mp (G := qm_Gi) q1) (Nat.le_of_ble_eq_true rfl) dl_1495 ?_ hcs
  show qL_W p l e s m below meth c b g cells slots i 1498 [qm_i r] h1
  refine qL_ldm C dl_1498 ?_
  refine qL_arg C (k := 1) (by decide) (by omega) hL dl_1499 dl_1500 dl_1501 dl_1502 dl_1503 ?_
  refine qL_call C (vs := [qm_i (xs (i + 1))]) (S := [qm_i r]) (ci := 12) (a := 62) (o := (some (qm_i r), h2)) sX12_kept ⟨by decide, by decide⟩ jX12_kept kl_137 uRX12 ⟨by decide, by decide, rfl⟩ iX12_kept rfl C.2.2.2.2.2.2.2 (qL_ints _ (by intro v hv; simp only [List.mem_cons, List.not_mem_nil, or_false] at hv; rcases hv with rfl <;> exact ⟨_, rfl⟩)) rfl (qm_mp (G := qm_Gi) q2) (Nat.le_of_ble_eq_true rfl) dl_1504 ?_ hcs
  show qL_W p l e s m below meth c b g cells slots i 1507 [qm_i r, qm_i r] h2
  exact qL_cmp C dl_1507 (tgt := 1581) (by decide) kk

theorem dl_1512 : decode code 1512 = .ok (.aload_n 1, 1) := by decide +kernel
theorem dl_1513 : decode code 1513 = .ok (.aload_n 0, 1) := by decide +kernel
theorem dl_1514 : decode code 1514 = .ok (.iload_n 3, 1) := by decide +kernel
theorem dl_1515 : decode code 1515 = .ok (.iconst 1, 1) := by decide +kernel
theorem dl_1516 : decode code 1516 = .ok (.iadd, 1) := by decide +kernel
theorem dl_1517 : decode code 1517 = .ok (.iaload, 1) := by decide +kernel
theorem dl_1518 : decode code 1518 = .ok (.invokevirtual 138, 3) := by decide +kernel
theorem dl_1521 : decode code 1521 = .ok (.aload_n 2, 1) := by decide +kernel
theorem dl_1522 : decode code 1522 = .ok (.aload_n 0, 1) := by decide +kernel
theorem dl_1523 : decode code 1523 = .ok (.iload_n 3, 1) := by decide +kernel
theorem dl_1524 : decode code 1524 = .ok (.iconst 1, 1) := by decide +kernel
theorem dl_1525 : decode code 1525 = .ok (.iadd, 1) := by decide +kernel
theorem dl_1526 : decode code 1526 = .ok (.iaload, 1) := by decide +kernel
theorem dl_1527 : decode code 1527 = .ok (.invokevirtual 141, 3) := by decide +kernel
theorem dl_1530 : decode code 1530 = .ok (.if_icmp .eq 51, 3) := by decide +kernel
theorem kl_138 : Jvm.Cond.methodLink R_law 138 yX11_count ∈ qm_all := List.mem_filter.mpr ⟨by decide +kernel, rfl⟩
theorem kl_141 : Jvm.Cond.methodLink R_law 141 yX12_count ∈ qm_all := List.mem_filter.mpr ⟨by decide +kernel, rfl⟩
set_option maxRecDepth 20000 in
theorem law_29 {p : Program} {l : Launch} {e : Env} {s : State} {m : MethodId} {below : List Frame} {meth : Method} {c : Code} {b L : Nat} {xs : Nat → Int32} {g : qm_G} {cells slots i : Nat} {h : qm_H} (C : qL_C p s m meth c b L xs g) (hL : L ≤ 3072) (hik : i + 6 ≤ L) (hcs : cells ≤ 600000 ∧ slots ≤ 7302250) {r : Int32} {h1 h2 : qm_H} (q1 : qX11_count 0 (xs (i + 1)) h = some (r, h1)) (q2 : qX12_count 62 (xs (i + 1)) h1 = some (r, h2)) (kk : qL_W p l e s m below meth c b g cells slots i 1581 [] h2) : qL_W p l e s m below meth c b g cells slots i 1512 [] h := by
  refine qL_ldx C dl_1512 ?_
  refine qL_arg C (k := 1) (by decide) (by omega) hL dl_1513 dl_1514 dl_1515 dl_1516 dl_1517 ?_
  refine qL_call C (vs := [qm_i (xs (i + 1))]) (S := []) (ci := 11) (a := 0) (o := (some (qm_i r), h1)) sX11_count ⟨by decide, by decide⟩ jX11_count kl_138 uRX11 ⟨by decide, by decide, rfl⟩ iX11_count rfl C.2.2.2.2.2.2.1 (qL_ints _ (by intro v hv; simp only [List.mem_cons, List.not_mem_nil, or_false] at hv; rcases hv with rfl <;> exact ⟨_, rfl⟩)) rfl (qm_mp (G := qm_Gi) q1) (Nat.le_of_ble_eq_true rfl) dl_1518 ?_ hcs
  show qL_W p l e s m below meth c b g cells slots i 1521 [qm_i r] h1
  refine qL_ldm C dl_1521 ?_
  refine qL_arg C (k := 1) (by decide) (by omega) hL dl_1522 dl_1523 dl_1524 dl_1525 dl_1526 ?_
  refine qL_call C (vs := [qm_i (xs (i + 1))]) (S := [qm_i r]) (ci := 12) (a := 62) (o := (some (qm_i r), h2)) sX12_count ⟨by decide, by decide⟩ jX12_count kl_141 uRX12 ⟨by decide, by decide, rfl⟩ iX12_count rfl C.2.2.2.2.2.2.2 (qL_ints _ (by intro v hv; simp only [List.mem_cons, List.not_mem_nil, or_false] at hv; rcases hv with rfl <;> exact ⟨_, rfl⟩)) rfl (qm_mp (G := qm_Gi) q2) (Nat.le_of_ble_eq_true rfl) dl_1527 ?_ hcs
  show qL_W p l e s m below meth c b g cells slots i 1530 [qm_i r, qm_i r] h2
  exact qL_cmp C dl_1530 (tgt := 1581) (by decide) kk

theorem dl_1558 : decode code 1558 = .ok (.aload_n 1, 1) := by decide +kernel
theorem dl_1559 : decode code 1559 = .ok (.aload_n 0, 1) := by decide +kernel
theorem dl_1560 : decode code 1560 = .ok (.iload_n 3, 1) := by decide +kernel
theorem dl_1561 : decode code 1561 = .ok (.iconst 1, 1) := by decide +kernel
theorem dl_1562 : decode code 1562 = .ok (.iadd, 1) := by decide +kernel
theorem dl_1563 : decode code 1563 = .ok (.iaload, 1) := by decide +kernel
theorem dl_1564 : decode code 1564 = .ok (.invokevirtual 147, 3) := by decide +kernel
theorem dl_1567 : decode code 1567 = .ok (.aload_n 2, 1) := by decide +kernel
theorem dl_1568 : decode code 1568 = .ok (.aload_n 0, 1) := by decide +kernel
theorem dl_1569 : decode code 1569 = .ok (.iload_n 3, 1) := by decide +kernel
theorem dl_1570 : decode code 1570 = .ok (.iconst 1, 1) := by decide +kernel
theorem dl_1571 : decode code 1571 = .ok (.iadd, 1) := by decide +kernel
theorem dl_1572 : decode code 1572 = .ok (.iaload, 1) := by decide +kernel
theorem dl_1573 : decode code 1573 = .ok (.invokevirtual 150, 3) := by decide +kernel
theorem dl_1576 : decode code 1576 = .ok (.if_icmp .eq 5, 3) := by decide +kernel
theorem kl_147 : Jvm.Cond.methodLink R_law 147 yX11_again ∈ qm_all := List.mem_filter.mpr ⟨by decide +kernel, rfl⟩
theorem kl_150 : Jvm.Cond.methodLink R_law 150 yX12_again ∈ qm_all := List.mem_filter.mpr ⟨by decide +kernel, rfl⟩
set_option maxRecDepth 20000 in
theorem law_31 {p : Program} {l : Launch} {e : Env} {s : State} {m : MethodId} {below : List Frame} {meth : Method} {c : Code} {b L : Nat} {xs : Nat → Int32} {g : qm_G} {cells slots i : Nat} {h : qm_H} (C : qL_C p s m meth c b L xs g) (hL : L ≤ 3072) (hik : i + 6 ≤ L) (hcs : cells ≤ 600000 ∧ slots ≤ 7302250) {r : Int32} {h1 h2 : qm_H} (q1 : qX11_again 0 (xs (i + 1)) h = some (r, h1)) (q2 : qX12_again 62 (xs (i + 1)) h1 = some (r, h2)) (kk : qL_W p l e s m below meth c b g cells slots i 1581 [] h2) : qL_W p l e s m below meth c b g cells slots i 1558 [] h := by
  refine qL_ldx C dl_1558 ?_
  refine qL_arg C (k := 1) (by decide) (by omega) hL dl_1559 dl_1560 dl_1561 dl_1562 dl_1563 ?_
  refine qL_call C (vs := [qm_i (xs (i + 1))]) (S := []) (ci := 11) (a := 0) (o := (some (qm_i r), h1)) sX11_again ⟨by decide, by decide⟩ jX11_again kl_147 uRX11 ⟨by decide, by decide, rfl⟩ iX11_again rfl C.2.2.2.2.2.2.1 (qL_ints _ (by intro v hv; simp only [List.mem_cons, List.not_mem_nil, or_false] at hv; rcases hv with rfl <;> exact ⟨_, rfl⟩)) rfl (qm_mp (G := qm_Gi) q1) (Nat.le_of_ble_eq_true rfl) dl_1564 ?_ hcs
  show qL_W p l e s m below meth c b g cells slots i 1567 [qm_i r] h1
  refine qL_ldm C dl_1567 ?_
  refine qL_arg C (k := 1) (by decide) (by omega) hL dl_1568 dl_1569 dl_1570 dl_1571 dl_1572 ?_
  refine qL_call C (vs := [qm_i (xs (i + 1))]) (S := [qm_i r]) (ci := 12) (a := 62) (o := (some (qm_i r), h2)) sX12_again ⟨by decide, by decide⟩ jX12_again kl_150 uRX12 ⟨by decide, by decide, rfl⟩ iX12_again rfl C.2.2.2.2.2.2.2 (qL_ints _ (by intro v hv; simp only [List.mem_cons, List.not_mem_nil, or_false] at hv; rcases hv with rfl <;> exact ⟨_, rfl⟩)) rfl (qm_mp (G := qm_Gi) q2) (Nat.le_of_ble_eq_true rfl) dl_1573 ?_ hcs
  show qL_W p l e s m below meth c b g cells slots i 1576 [qm_i r, qm_i r] h2
  exact qL_cmp C dl_1576 (tgt := 1581) (by decide) kk

