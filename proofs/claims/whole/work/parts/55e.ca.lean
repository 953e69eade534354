/-! THE LAW: calls capacityFor, bestBuffer, append, clearText, parse, undo, digest -/
theorem dL_law_1355 : decode cL_law 1355 = .ok (.aload_n 1, 1) := by decide +kernel
theorem dL_law_1356 : decode cL_law 1356 = .ok (.aload_n 0, 1) := by decide +kernel
theorem dL_law_1357 : decode cL_law 1357 = .ok (.iload 5, 2) := by decide +kernel
theorem dL_law_1359 : decode cL_law 1359 = .ok (.iconst 1, 1) := by decide +kernel
theorem dL_law_1360 : decode cL_law 1360 = .ok (.iadd, 1) := by decide +kernel
theorem dL_law_1361 : decode cL_law 1361 = .ok (.iaload, 1) := by decide +kernel
theorem dL_law_1362 : decode cL_law 1362 = .ok (.aload_n 0, 1) := by decide +kernel
theorem dL_law_1363 : decode cL_law 1363 = .ok (.iload 5, 2) := by decide +kernel
theorem dL_law_1365 : decode cL_law 1365 = .ok (.iconst 2, 1) := by decide +kernel
theorem dL_law_1366 : decode cL_law 1366 = .ok (.iadd, 1) := by decide +kernel
theorem dL_law_1367 : decode cL_law 1367 = .ok (.iaload, 1) := by decide +kernel
theorem dL_law_1368 : decode cL_law 1368 = .ok (.aload_n 0, 1) := by decide +kernel
theorem dL_law_1369 : decode cL_law 1369 = .ok (.iload 5, 2) := by decide +kernel
theorem dL_law_1371 : decode cL_law 1371 = .ok (.iconst 3, 1) := by decide +kernel
theorem dL_law_1372 : decode cL_law 1372 = .ok (.iadd, 1) := by decide +kernel
theorem dL_law_1373 : decode cL_law 1373 = .ok (.iaload, 1) := by decide +kernel
theorem dL_law_1374 : decode cL_law 1374 = .ok (.aload_n 3, 1) := by decide +kernel
theorem dL_law_1375 : decode cL_law 1375 = .ok (.invokestatic 163, 3) := by decide +kernel
theorem dL_law_1378 : decode cL_law 1378 = .ok (.istore 6, 2) := by decide +kernel
theorem dL_law_1380 : decode cL_law 1380 = .ok (.aload_n 2, 1) := by decide +kernel
theorem dL_law_1381 : decode cL_law 1381 = .ok (.aload_n 0, 1) := by decide +kernel
theorem dL_law_1382 : decode cL_law 1382 = .ok (.iload 5, 2) := by decide +kernel
theorem dL_law_1384 : decode cL_law 1384 = .ok (.iconst 1, 1) := by decide +kernel
theorem dL_law_1385 : decode cL_law 1385 = .ok (.iadd, 1) := by decide +kernel
theorem dL_law_1386 : decode cL_law 1386 = .ok (.iaload, 1) := by decide +kernel
theorem dL_law_1387 : decode cL_law 1387 = .ok (.aload_n 0, 1) := by decide +kernel
theorem dL_law_1388 : decode cL_law 1388 = .ok (.iload 5, 2) := by decide +kernel
theorem dL_law_1390 : decode cL_law 1390 = .ok (.iconst 2, 1) := by decide +kernel
theorem dL_law_1391 : decode cL_law 1391 = .ok (.iadd, 1) := by decide +kernel
theorem dL_law_1392 : decode cL_law 1392 = .ok (.iaload, 1) := by decide +kernel
theorem dL_law_1393 : decode cL_law 1393 = .ok (.aload_n 0, 1) := by decide +kernel
theorem dL_law_1394 : decode cL_law 1394 = .ok (.iload 5, 2) := by decide +kernel
theorem dL_law_1396 : decode cL_law 1396 = .ok (.iconst 3, 1) := by decide +kernel
theorem dL_law_1397 : decode cL_law 1397 = .ok (.iadd, 1) := by decide +kernel
theorem dL_law_1398 : decode cL_law 1398 = .ok (.iaload, 1) := by decide +kernel
theorem dL_law_1399 : decode cL_law 1399 = .ok (.invokevirtual 165, 3) := by decide +kernel
theorem dL_law_1402 : decode cL_law 1402 = .ok (.istore 7, 2) := by decide +kernel
theorem dL_law_1404 : decode cL_law 1404 = .ok (.aload_n 2, 1) := by decide +kernel
theorem dL_law_1405 : decode cL_law 1405 = .ok (.invokevirtual 88, 3) := by decide +kernel
theorem dL_law_1408 : decode cL_law 1408 = .ok (.iload 6, 2) := by decide +kernel
theorem dL_law_1410 : decode cL_law 1410 = .ok (.if_icmp .eq 5, 3) := by decide +kernel
theorem dL_law_1413 : decode cL_law 1413 = .ok (.iconst 0, 1) := by decide +kernel
theorem dL_law_1414 : decode cL_law 1414 = .ok (.ireturn, 1) := by decide +kernel
theorem dL_law_1415 : decode cL_law 1415 = .ok (.iload 6, 2) := by decide +kernel
theorem dL_law_1417 : decode cL_law 1417 = .ok (.ifCond .ne 15, 3) := by decide +kernel
theorem dL_law_1420 : decode cL_law 1420 = .ok (.aload_n 3, 1) := by decide +kernel
theorem dL_law_1421 : decode cL_law 1421 = .ok (.iconst 0, 1) := by decide +kernel
theorem dL_law_1422 : decode cL_law 1422 = .ok (.laload, 1) := by decide +kernel
theorem dL_law_1423 : decode cL_law 1423 = .ok (.iload 7, 2) := by decide +kernel
theorem dL_law_1425 : decode cL_law 1425 = .ok (.i2l, 1) := by decide +kernel
theorem dL_law_1426 : decode cL_law 1426 = .ok (.lcmp, 1) := by decide +kernel
theorem dL_law_1427 : decode cL_law 1427 = .ok (.ifCond .eq 5, 3) := by decide +kernel
theorem dL_law_1430 : decode cL_law 1430 = .ok (.iconst 0, 1) := by decide +kernel
theorem dL_law_1431 : decode cL_law 1431 = .ok (.ireturn, 1) := by decide +kernel
theorem dL_law_1432 : decode cL_law 1432 = .ok (.goto 211, 3) := by decide +kernel
set_option maxRecDepth 20000 in
theorem wl_capacityFor : GoodIn lw_tbl (va_wsS RL 163 yL_capacityFor wsW_capacityFor) := goodIn_app (fun w h => ⟨in_idx [633, 634, 47] (by decide +kernel) w h, good_of_word (List.all_eq_true.mp (show ([.methodLink RL 163 yL_capacityFor, .static yL_capacityFor, .initialized yL_capacityFor.cls] : List Cond).all goodWord = true from by decide +kernel) w h)⟩) (fun w h => (List.mem_cons.mp h).elim (fun q => q ▸ ⟨List.mem_of_getElem? (i := 635) (by decide +kernel), good_of_word rfl⟩) (fun q => lwG_self w q))
set_option maxRecDepth 100000 in
set_option maxHeartbeats 4000000 in
theorem cs_capacityFor {p : Program} {l : Launch} {e : Env} {s : State} {m : MethodId} {below : List Frame} {meth : Method} {c : Code} {bs L : Nat} {xs : Nat → Int32} {D : va_G} {cs : Nat → ClassId} {ad : Nat → Nat} {Q : State → Prop} {i cells slots : Nat} {Ls : Nat → SL} {Hs T M : SL} {dr hs o : Int64} {od : UInt64} {H : Heap} {locs : List Loc} {ls : Array Slot} (E : LX p l s m meth c bs L xs D cs ad) (hi : i + 6 ≤ L) (hc : cells + 3 ≤ room_1.cells ∧ slots + 18 ≤ room_1.slots) (hSS : SS Ls Hs T M) (hP : va_P D vwCl (wA cs ad Ls Hs T M dr hs o od) H) (hS : va_S (Afr ad s.heap.size) s.heap H locs) (hl : lv_has ls 9 (lvL bs ad (nI i))) (K : LK p l e s m bs below meth c D cs ad i cells slots Q) : W p l e room_1 s m #[.ref bs] below meth c H locs cells slots Q (F0 m 1355 ls []) := by
  obtain ⟨C, G, X, N, Y, sX, sL, sA, hL, hfl⟩ := E
  obtain ⟨bv, M', res, v, Ls', o', eM, eC, h4, hSS', hov, hu, hk⟩ := rq_out o (s_capacityFor hSS (xs (i + 1)) (xs (i + 2)) (xs (i + 3)))
  refine lv_aload_n C.1 C.2.1 dL_law_1355 rfl (lv_at hl 1 rfl) ?_
  refine lv_aload_n C.1 C.2.1 dL_law_1356 rfl (lv_at hl 0 rfl) ?_
  refine lv_iload C.1 C.2.1 dL_law_1357 (lv_at hl 5 rfl) ?_
  refine lv_iconst (v := 1) C.1 C.2.1 dL_law_1359 (by decide) ?_
  refine k_iadd C (np1 i) dL_law_1360 ?_
  refine k_sld C sX sL sA hL hS (show i + 1 < L by omega) dL_law_1361 ?_
  refine lv_aload_n C.1 C.2.1 dL_law_1362 rfl (lv_at hl 0 rfl) ?_
  refine lv_iload C.1 C.2.1 dL_law_1363 (lv_at hl 5 rfl) ?_
  refine lv_iconst (v := 2) C.1 C.2.1 dL_law_1365 (by decide) ?_
  refine k_iadd C (np2 i) dL_law_1366 ?_
  refine k_sld C sX sL sA hL hS (show i + 2 < L by omega) dL_law_1367 ?_
  refine lv_aload_n C.1 C.2.1 dL_law_1368 rfl (lv_at hl 0 rfl) ?_
  refine lv_iload C.1 C.2.1 dL_law_1369 (lv_at hl 5 rfl) ?_
  refine lv_iconst (v := 3) C.1 C.2.1 dL_law_1371 (by decide) ?_
  refine k_iadd C (np3 i) dL_law_1372 ?_
  refine k_sld C sX sL sA hL hS (show i + 3 < L by omega) dL_law_1373 ?_
  refine lv_aload_n C.1 C.2.1 dL_law_1374 rfl (lv_at hl 3 rfl) ?_
  have hM := m_L_capacityFor l hfl (D := D) (cs := cs) G.2.1 H.size (Ls := Ls) (Hs := Hs) (T := T) (M := M) (dr := dr) (hs := hs) (o := o) (od := od) eC (v := v) (w' := wA cs ad Ls' Hs T M dr hs o' od) (fun u hu1 => by
    obtain ⟨a1, a2, a4⟩ := hu u hu1
    exact ⟨a1, by rw [a2, a4]⟩) (fun k hk1 => by
    obtain ⟨⟨a2, a4⟩, q⟩ := hk k hk1
    exact ⟨by rw [a2, a4], dk_B q⟩)
  refine k_callSWi C G X N Y hP hS hM (vx_cwSW 5 C.2.2.2.2.2.1 wl_capacityFor rfl rfl rfl (by decide +kernel) ⟨Nat.le_of_ble_eq_true rfl, Nat.le_of_ble_eq_true rfl⟩) (As := [.ref (ad 0), .int (xs (i + 1)), .int (xs (i + 2)), .int (xs (i + 3)), .ref (ad 95)]) rfl hl.1 rfl (Nat.le_of_ble_eq_true rfl) dL_law_1375 ⟨by omega, by omega⟩ (fun H locs hP hS => ?_)
  refine lv_istore (lv' := [(6, .int v), (0, .ref bs), (1, .ref (ad 0)), (2, .ref (ad 89)), (3, .ref (ad 95)), (4, .ref (ad 96)), (5, .int (nI i))]) C.1 C.2.1 dL_law_1378 hl (by decide) rfl (fun ls hl => ?_)
  refine lv_aload_n C.1 C.2.1 dL_law_1380 rfl (lv_at hl 3 rfl) ?_
  refine lv_aload_n C.1 C.2.1 dL_law_1381 rfl (lv_at hl 1 rfl) ?_
  refine lv_iload C.1 C.2.1 dL_law_1382 (lv_at hl 6 rfl) ?_
  refine lv_iconst (v := 1) C.1 C.2.1 dL_law_1384 (by decide) ?_
  refine k_iadd C (np1 i) dL_law_1385 ?_
  refine k_sld C sX sL sA hL hS (show i + 1 < L by omega) dL_law_1386 ?_
  refine lv_aload_n C.1 C.2.1 dL_law_1387 rfl (lv_at hl 1 rfl) ?_
  refine lv_iload C.1 C.2.1 dL_law_1388 (lv_at hl 6 rfl) ?_
  refine lv_iconst (v := 2) C.1 C.2.1 dL_law_1390 (by decide) ?_
  refine k_iadd C (np2 i) dL_law_1391 ?_
  refine k_sld C sX sL sA hL hS (show i + 2 < L by omega) dL_law_1392 ?_
  refine lv_aload_n C.1 C.2.1 dL_law_1393 rfl (lv_at hl 1 rfl) ?_
  refine lv_iload C.1 C.2.1 dL_law_1394 (lv_at hl 6 rfl) ?_
  refine lv_iconst (v := 3) C.1 C.2.1 dL_law_1396 (by decide) ?_
  refine k_iadd C (np3 i) dL_law_1397 ?_
  refine k_sld C sX sL sA hL hS (show i + 3 < L by omega) dL_law_1398 ?_
  refine k_callVi C G hP hS (m_X6_capacityFor l G.2.1 _ eM) r_obj rfl (cwV 3 C.2.2.2.2.2.1 (lwG_up wg_X6_capacityFor) rfl rfl rfl (by decide +kernel) ⟨Nat.le_of_ble_eq_true rfl, Nat.le_of_ble_eq_true rfl⟩) (As := [.int (xs (i + 1)), .int (xs (i + 2)), .int (xs (i + 3))]) rfl hl.1 rfl (Nat.le_of_ble_eq_true rfl) dL_law_1399 ⟨by omega, by omega⟩ (fun H locs hP hS => ?_)
  have hP : va_P D vwCl (wA cs ad Ls' Hs T M' dr hs o' od) H := hP
  refine lv_istore (lv' := [(7, .int bv), (6, .int v), (0, .ref bs), (1, .ref (ad 0)), (2, .ref (ad 89)), (3, .ref (ad 95)), (4, .ref (ad 96)), (5, .int (nI i))]) C.1 C.2.1 dL_law_1402 hl (by decide) rfl (fun ls hl => ?_)
  refine lv_aload_n C.1 C.2.1 dL_law_1404 rfl (lv_at hl 4 rfl) ?_
  refine k_callVi C G hP hS (m_X6_thrown l G.2.1 _ (show f_X6_thrown M' = some v by rw [← h4]; rfl)) r_obj rfl (cwV 0 C.2.2.2.2.2.1 (lwG_up wg_X6_thrown) rfl rfl rfl (by decide +kernel) ⟨Nat.le_of_ble_eq_true rfl, Nat.le_of_ble_eq_true rfl⟩) (As := []) rfl hl.1 rfl (Nat.le_of_ble_eq_true rfl) dL_law_1405 ⟨by omega, by omega⟩ (fun H locs hP hS => ?_)
  refine lv_iload C.1 C.2.1 dL_law_1408 (lv_at hl 1 rfl) ?_
  refine lv_icmp_eq (tgt := 1415) C.1 C.2.1 dL_law_1410 (by decide) (fun _ => ?_) (fun z => absurd rfl z)
  refine lv_iload C.1 C.2.1 dL_law_1415 (lv_at hl 1 rfl) ?_
  have hSS := hSS'
  refine lv_if_ne (tgt := 1432) C.1 C.2.1 dL_law_1417 (by decide) (fun _ => ?_) (fun z => ?_)
  · refine lv_goto (tgt := 1643) C.1 C.2.1 dL_law_1432 (by decide) ?_
    refine W.widen (k := cells + 3) (n := slots + 18) (by omega) (by omega) ?_
    exact K _ _ _ _ _ _ _ _ _ _ _ hSS hP hS (lv_sub hl [2, 3, 4, 5, 6, 7] rfl)
  · refine lv_aload_n C.1 C.2.1 dL_law_1420 rfl (lv_at hl 5 rfl) ?_
    refine lv_iconst (v := 0) C.1 C.2.1 dL_law_1421 (by decide) ?_
    refine k_laldO C G hP dL_law_1422 ?_
    refine lv_iload C.1 C.2.1 dL_law_1423 (lv_at hl 0 rfl) ?_
    refine k_i2l C (hov z) dL_law_1425 ?_
    refine W.lcmp C.1 C.2.1 dL_law_1426 ?_
    refine lv_if_eq (tgt := 1432) C.1 C.2.1 dL_law_1427 (by decide) (fun _ => ?_) (fun q => absurd (lg_self _) q)
    refine lv_goto (tgt := 1643) C.1 C.2.1 dL_law_1432 (by decide) ?_
    refine W.widen (k := cells + 3) (n := slots + 18) (by omega) (by omega) ?_
    exact K _ _ _ _ _ _ _ _ _ _ _ hSS hP hS (lv_sub hl [2, 3, 4, 5, 6, 7] rfl)
theorem dL_law_1435 : decode cL_law 1435 = .ok (.aload_n 1, 1) := by decide +kernel
theorem dL_law_1436 : decode cL_law 1436 = .ok (.aload_n 0, 1) := by decide +kernel
theorem dL_law_1437 : decode cL_law 1437 = .ok (.iload 5, 2) := by decide +kernel
theorem dL_law_1439 : decode cL_law 1439 = .ok (.iconst 1, 1) := by decide +kernel
theorem dL_law_1440 : decode cL_law 1440 = .ok (.iadd, 1) := by decide +kernel
theorem dL_law_1441 : decode cL_law 1441 = .ok (.iaload, 1) := by decide +kernel
theorem dL_law_1442 : decode cL_law 1442 = .ok (.aload_n 0, 1) := by decide +kernel
theorem dL_law_1443 : decode cL_law 1443 = .ok (.iload 5, 2) := by decide +kernel
theorem dL_law_1445 : decode cL_law 1445 = .ok (.iconst 2, 1) := by decide +kernel
theorem dL_law_1446 : decode cL_law 1446 = .ok (.iadd, 1) := by decide +kernel
theorem dL_law_1447 : decode cL_law 1447 = .ok (.iaload, 1) := by decide +kernel
theorem dL_law_1448 : decode cL_law 1448 = .ok (.aload_n 3, 1) := by decide +kernel
theorem dL_law_1449 : decode cL_law 1449 = .ok (.invokestatic 166, 3) := by decide +kernel
theorem dL_law_1452 : decode cL_law 1452 = .ok (.istore 6, 2) := by decide +kernel
theorem dL_law_1454 : decode cL_law 1454 = .ok (.aload_n 2, 1) := by decide +kernel
theorem dL_law_1455 : decode cL_law 1455 = .ok (.aload_n 0, 1) := by decide +kernel
theorem dL_law_1456 : decode cL_law 1456 = .ok (.iload 5, 2) := by decide +kernel
theorem dL_law_1458 : decode cL_law 1458 = .ok (.iconst 1, 1) := by decide +kernel
theorem dL_law_1459 : decode cL_law 1459 = .ok (.iadd, 1) := by decide +kernel
theorem dL_law_1460 : decode cL_law 1460 = .ok (.iaload, 1) := by decide +kernel
theorem dL_law_1461 : decode cL_law 1461 = .ok (.aload_n 0, 1) := by decide +kernel
theorem dL_law_1462 : decode cL_law 1462 = .ok (.iload 5, 2) := by decide +kernel
theorem dL_law_1464 : decode cL_law 1464 = .ok (.iconst 2, 1) := by decide +kernel
theorem dL_law_1465 : decode cL_law 1465 = .ok (.iadd, 1) := by decide +kernel
theorem dL_law_1466 : decode cL_law 1466 = .ok (.iaload, 1) := by decide +kernel
theorem dL_law_1467 : decode cL_law 1467 = .ok (.invokevirtual 168, 3) := by decide +kernel
theorem dL_law_1470 : decode cL_law 1470 = .ok (.istore 7, 2) := by decide +kernel
theorem dL_law_1472 : decode cL_law 1472 = .ok (.aload_n 2, 1) := by decide +kernel
theorem dL_law_1473 : decode cL_law 1473 = .ok (.invokevirtual 88, 3) := by decide +kernel
theorem dL_law_1476 : decode cL_law 1476 = .ok (.iload 6, 2) := by decide +kernel
theorem dL_law_1478 : decode cL_law 1478 = .ok (.if_icmp .eq 5, 3) := by decide +kernel
theorem dL_law_1481 : decode cL_law 1481 = .ok (.iconst 0, 1) := by decide +kernel
theorem dL_law_1482 : decode cL_law 1482 = .ok (.ireturn, 1) := by decide +kernel
theorem dL_law_1483 : decode cL_law 1483 = .ok (.iload 6, 2) := by decide +kernel
theorem dL_law_1485 : decode cL_law 1485 = .ok (.ifCond .ne 15, 3) := by decide +kernel
theorem dL_law_1488 : decode cL_law 1488 = .ok (.aload_n 3, 1) := by decide +kernel
theorem dL_law_1489 : decode cL_law 1489 = .ok (.iconst 0, 1) := by decide +kernel
theorem dL_law_1490 : decode cL_law 1490 = .ok (.laload, 1) := by decide +kernel
theorem dL_law_1491 : decode cL_law 1491 = .ok (.iload 7, 2) := by decide +kernel
theorem dL_law_1493 : decode cL_law 1493 = .ok (.i2l, 1) := by decide +kernel
theorem dL_law_1494 : decode cL_law 1494 = .ok (.lcmp, 1) := by decide +kernel
theorem dL_law_1495 : decode cL_law 1495 = .ok (.ifCond .eq 5, 3) := by decide +kernel
theorem dL_law_1498 : decode cL_law 1498 = .ok (.iconst 0, 1) := by decide +kernel
theorem dL_law_1499 : decode cL_law 1499 = .ok (.ireturn, 1) := by decide +kernel
theorem dL_law_1500 : decode cL_law 1500 = .ok (.goto 143, 3) := by decide +kernel
set_option maxRecDepth 20000 in
theorem wl_bestBuffer : GoodIn lw_tbl (va_wsS RL 166 yL_bestBuffer wsW_bestBuffer) := goodIn_app (fun w h => ⟨in_idx [641, 642, 47] (by decide +kernel) w h, good_of_word (List.all_eq_true.mp (show ([.methodLink RL 166 yL_bestBuffer, .static yL_bestBuffer, .initialized yL_bestBuffer.cls] : List Cond).all goodWord = true from by decide +kernel) w h)⟩) (fun w h => (List.mem_cons.mp h).elim (fun q => q ▸ ⟨List.mem_of_getElem? (i := 643) (by decide +kernel), good_of_word rfl⟩) (fun q => lwG_self w q))
set_option maxRecDepth 100000 in
set_option maxHeartbeats 4000000 in
theorem cs_bestBuffer {p : Program} {l : Launch} {e : Env} {s : State} {m : MethodId} {below : List Frame} {meth : Method} {c : Code} {bs L : Nat} {xs : Nat → Int32} {D : va_G} {cs : Nat → ClassId} {ad : Nat → Nat} {Q : State → Prop} {i cells slots : Nat} {Ls : Nat → SL} {Hs T M : SL} {dr hs o : Int64} {od : UInt64} {H : Heap} {locs : List Loc} {ls : Array Slot} (E : LX p l s m meth c bs L xs D cs ad) (hi : i + 6 ≤ L) (hc : cells + 3 ≤ room_1.cells ∧ slots + 18 ≤ room_1.slots) (hSS : SS Ls Hs T M) (hP : va_P D vwCl (wA cs ad Ls Hs T M dr hs o od) H) (hS : va_S (Afr ad s.heap.size) s.heap H locs) (hl : lv_has ls 9 (lvL bs ad (nI i))) (K : LK p l e s m bs below meth c D cs ad i cells slots Q) : W p l e room_1 s m #[.ref bs] below meth c H locs cells slots Q (F0 m 1435 ls []) := by
  obtain ⟨C, G, X, N, Y, sX, sL, sA, hL, hfl⟩ := E
  obtain ⟨bv, M', res, v, Ls', o', eM, eC, h4, hSS', hov, hu, hk⟩ := rq_out o (s_bestBuffer hSS (xs (i + 1)) (xs (i + 2)))
  refine lv_aload_n C.1 C.2.1 dL_law_1435 rfl (lv_at hl 1 rfl) ?_
  refine lv_aload_n C.1 C.2.1 dL_law_1436 rfl (lv_at hl 0 rfl) ?_
  refine lv_iload C.1 C.2.1 dL_law_1437 (lv_at hl 5 rfl) ?_
  refine lv_iconst (v := 1) C.1 C.2.1 dL_law_1439 (by decide) ?_
  refine k_iadd C (np1 i) dL_law_1440 ?_
  refine k_sld C sX sL sA hL hS (show i + 1 < L by omega) dL_law_1441 ?_
  refine lv_aload_n C.1 C.2.1 dL_law_1442 rfl (lv_at hl 0 rfl) ?_
  refine lv_iload C.1 C.2.1 dL_law_1443 (lv_at hl 5 rfl) ?_
  refine lv_iconst (v := 2) C.1 C.2.1 dL_law_1445 (by decide) ?_
  refine k_iadd C (np2 i) dL_law_1446 ?_
  refine k_sld C sX sL sA hL hS (show i + 2 < L by omega) dL_law_1447 ?_
  refine lv_aload_n C.1 C.2.1 dL_law_1448 rfl (lv_at hl 3 rfl) ?_
  have hM := m_L_bestBuffer l hfl (D := D) (cs := cs) G.2.1 H.size (Ls := Ls) (Hs := Hs) (T := T) (M := M) (dr := dr) (hs := hs) (o := o) (od := od) eC (v := v) (w' := wA cs ad Ls' Hs T M dr hs o' od) (fun u hu1 => by
    obtain ⟨a1, a2, a4⟩ := hu u hu1
    exact ⟨a1, by rw [a2, a4]⟩) (fun k hk1 => by
    obtain ⟨⟨a2, a4⟩, q⟩ := hk k hk1
    exact ⟨by rw [a2, a4], dk_id q⟩)
  refine k_callSWi C G X N Y hP hS hM (vx_cwSW 4 C.2.2.2.2.2.1 wl_bestBuffer rfl rfl rfl (by decide +kernel) ⟨Nat.le_of_ble_eq_true rfl, Nat.le_of_ble_eq_true rfl⟩) (As := [.ref (ad 0), .int (xs (i + 1)), .int (xs (i + 2)), .ref (ad 95)]) rfl hl.1 rfl (Nat.le_of_ble_eq_true rfl) dL_law_1449 ⟨by omega, by omega⟩ (fun H locs hP hS => ?_)
  refine lv_istore (lv' := [(6, .int v), (0, .ref bs), (1, .ref (ad 0)), (2, .ref (ad 89)), (3, .ref (ad 95)), (4, .ref (ad 96)), (5, .int (nI i))]) C.1 C.2.1 dL_law_1452 hl (by decide) rfl (fun ls hl => ?_)
  refine lv_aload_n C.1 C.2.1 dL_law_1454 rfl (lv_at hl 3 rfl) ?_
  refine lv_aload_n C.1 C.2.1 dL_law_1455 rfl (lv_at hl 1 rfl) ?_
  refine lv_iload C.1 C.2.1 dL_law_1456 (lv_at hl 6 rfl) ?_
  refine lv_iconst (v := 1) C.1 C.2.1 dL_law_1458 (by decide) ?_
  refine k_iadd C (np1 i) dL_law_1459 ?_
  refine k_sld C sX sL sA hL hS (show i + 1 < L by omega) dL_law_1460 ?_
  refine lv_aload_n C.1 C.2.1 dL_law_1461 rfl (lv_at hl 1 rfl) ?_
  refine lv_iload C.1 C.2.1 dL_law_1462 (lv_at hl 6 rfl) ?_
  refine lv_iconst (v := 2) C.1 C.2.1 dL_law_1464 (by decide) ?_
  refine k_iadd C (np2 i) dL_law_1465 ?_
  refine k_sld C sX sL sA hL hS (show i + 2 < L by omega) dL_law_1466 ?_
  refine k_callVi C G hP hS (m_X6_bestBuffer l G.2.1 _ eM) r_obj rfl (cwV 2 C.2.2.2.2.2.1 (lwG_up wg_X6_bestBuffer) rfl rfl rfl (by decide +kernel) ⟨Nat.le_of_ble_eq_true rfl, Nat.le_of_ble_eq_true rfl⟩) (As := [.int (xs (i + 1)), .int (xs (i + 2))]) rfl hl.1 rfl (Nat.le_of_ble_eq_true rfl) dL_law_1467 ⟨by omega, by omega⟩ (fun H locs hP hS => ?_)
  have hP : va_P D vwCl (wA cs ad Ls' Hs T M' dr hs o' od) H := hP
  refine lv_istore (lv' := [(7, .int bv), (6, .int v), (0, .ref bs), (1, .ref (ad 0)), (2, .ref (ad 89)), (3, .ref (ad 95)), (4, .ref (ad 96)), (5, .int (nI i))]) C.1 C.2.1 dL_law_1470 hl (by decide) rfl (fun ls hl => ?_)
  refine lv_aload_n C.1 C.2.1 dL_law_1472 rfl (lv_at hl 4 rfl) ?_
  refine k_callVi C G hP hS (m_X6_thrown l G.2.1 _ (show f_X6_thrown M' = some v by rw [← h4]; rfl)) r_obj rfl (cwV 0 C.2.2.2.2.2.1 (lwG_up wg_X6_thrown) rfl rfl rfl (by decide +kernel) ⟨Nat.le_of_ble_eq_true rfl, Nat.le_of_ble_eq_true rfl⟩) (As := []) rfl hl.1 rfl (Nat.le_of_ble_eq_true rfl) dL_law_1473 ⟨by omega, by omega⟩ (fun H locs hP hS => ?_)
  refine lv_iload C.1 C.2.1 dL_law_1476 (lv_at hl 1 rfl) ?_
  refine lv_icmp_eq (tgt := 1483) C.1 C.2.1 dL_law_1478 (by decide) (fun _ => ?_) (fun z => absurd rfl z)
  refine lv_iload C.1 C.2.1 dL_law_1483 (lv_at hl 1 rfl) ?_
  have hSS := hSS'
  refine lv_if_ne (tgt := 1500) C.1 C.2.1 dL_law_1485 (by decide) (fun _ => ?_) (fun z => ?_)
  · refine lv_goto (tgt := 1643) C.1 C.2.1 dL_law_1500 (by decide) ?_
    refine W.widen (k := cells + 3) (n := slots + 18) (by omega) (by omega) ?_
    exact K _ _ _ _ _ _ _ _ _ _ _ hSS hP hS (lv_sub hl [2, 3, 4, 5, 6, 7] rfl)
  · refine lv_aload_n C.1 C.2.1 dL_law_1488 rfl (lv_at hl 5 rfl) ?_
    refine lv_iconst (v := 0) C.1 C.2.1 dL_law_1489 (by decide) ?_
    refine k_laldO C G hP dL_law_1490 ?_
    refine lv_iload C.1 C.2.1 dL_law_1491 (lv_at hl 0 rfl) ?_
    refine k_i2l C (hov z) dL_law_1493 ?_
    refine W.lcmp C.1 C.2.1 dL_law_1494 ?_
    refine lv_if_eq (tgt := 1500) C.1 C.2.1 dL_law_1495 (by decide) (fun _ => ?_) (fun q => absurd (lg_self _) q)
    refine lv_goto (tgt := 1643) C.1 C.2.1 dL_law_1500 (by decide) ?_
    refine W.widen (k := cells + 3) (n := slots + 18) (by omega) (by omega) ?_
    exact K _ _ _ _ _ _ _ _ _ _ _ hSS hP hS (lv_sub hl [2, 3, 4, 5, 6, 7] rfl)
theorem dL_law_1503 : decode cL_law 1503 = .ok (.aload_n 1, 1) := by decide +kernel
theorem dL_law_1504 : decode cL_law 1504 = .ok (.aload_n 0, 1) := by decide +kernel
theorem dL_law_1505 : decode cL_law 1505 = .ok (.iload 5, 2) := by decide +kernel
theorem dL_law_1507 : decode cL_law 1507 = .ok (.iconst 1, 1) := by decide +kernel
theorem dL_law_1508 : decode cL_law 1508 = .ok (.iadd, 1) := by decide +kernel
theorem dL_law_1509 : decode cL_law 1509 = .ok (.iaload, 1) := by decide +kernel
theorem dL_law_1510 : decode cL_law 1510 = .ok (.aload_n 3, 1) := by decide +kernel
theorem dL_law_1511 : decode cL_law 1511 = .ok (.invokestatic 169, 3) := by decide +kernel
theorem dL_law_1514 : decode cL_law 1514 = .ok (.istore 6, 2) := by decide +kernel
theorem dL_law_1516 : decode cL_law 1516 = .ok (.aload_n 2, 1) := by decide +kernel
theorem dL_law_1517 : decode cL_law 1517 = .ok (.aload_n 0, 1) := by decide +kernel
theorem dL_law_1518 : decode cL_law 1518 = .ok (.iload 5, 2) := by decide +kernel
theorem dL_law_1520 : decode cL_law 1520 = .ok (.iconst 1, 1) := by decide +kernel
theorem dL_law_1521 : decode cL_law 1521 = .ok (.iadd, 1) := by decide +kernel
theorem dL_law_1522 : decode cL_law 1522 = .ok (.iaload, 1) := by decide +kernel
theorem dL_law_1523 : decode cL_law 1523 = .ok (.invokevirtual 171, 3) := by decide +kernel
theorem dL_law_1526 : decode cL_law 1526 = .ok (.istore 7, 2) := by decide +kernel
theorem dL_law_1528 : decode cL_law 1528 = .ok (.aload_n 2, 1) := by decide +kernel
theorem dL_law_1529 : decode cL_law 1529 = .ok (.invokevirtual 88, 3) := by decide +kernel
theorem dL_law_1532 : decode cL_law 1532 = .ok (.iload 6, 2) := by decide +kernel
theorem dL_law_1534 : decode cL_law 1534 = .ok (.if_icmp .eq 5, 3) := by decide +kernel
theorem dL_law_1537 : decode cL_law 1537 = .ok (.iconst 0, 1) := by decide +kernel
theorem dL_law_1538 : decode cL_law 1538 = .ok (.ireturn, 1) := by decide +kernel
theorem dL_law_1539 : decode cL_law 1539 = .ok (.iload 6, 2) := by decide +kernel
theorem dL_law_1541 : decode cL_law 1541 = .ok (.ifCond .ne 15, 3) := by decide +kernel
theorem dL_law_1544 : decode cL_law 1544 = .ok (.aload_n 3, 1) := by decide +kernel
theorem dL_law_1545 : decode cL_law 1545 = .ok (.iconst 0, 1) := by decide +kernel
theorem dL_law_1546 : decode cL_law 1546 = .ok (.laload, 1) := by decide +kernel
theorem dL_law_1547 : decode cL_law 1547 = .ok (.iload 7, 2) := by decide +kernel
theorem dL_law_1549 : decode cL_law 1549 = .ok (.i2l, 1) := by decide +kernel
theorem dL_law_1550 : decode cL_law 1550 = .ok (.lcmp, 1) := by decide +kernel
theorem dL_law_1551 : decode cL_law 1551 = .ok (.ifCond .eq 5, 3) := by decide +kernel
theorem dL_law_1554 : decode cL_law 1554 = .ok (.iconst 0, 1) := by decide +kernel
theorem dL_law_1555 : decode cL_law 1555 = .ok (.ireturn, 1) := by decide +kernel
theorem dL_law_1556 : decode cL_law 1556 = .ok (.goto 87, 3) := by decide +kernel
set_option maxRecDepth 20000 in
theorem wl_append : GoodIn lw_tbl (va_wsS RL 169 yL_append wsW_append) := goodIn_app (fun w h => ⟨in_idx [650, 651, 47] (by decide +kernel) w h, good_of_word (List.all_eq_true.mp (show ([.methodLink RL 169 yL_append, .static yL_append, .initialized yL_append.cls] : List Cond).all goodWord = true from by decide +kernel) w h)⟩) (fun w h => (List.mem_cons.mp h).elim (fun q => q ▸ ⟨List.mem_of_getElem? (i := 652) (by decide +kernel), good_of_word rfl⟩) (fun q => lwG_self w q))
set_option maxRecDepth 100000 in
set_option maxHeartbeats 4000000 in
theorem cs_append {p : Program} {l : Launch} {e : Env} {s : State} {m : MethodId} {below : List Frame} {meth : Method} {c : Code} {bs L : Nat} {xs : Nat → Int32} {D : va_G} {cs : Nat → ClassId} {ad : Nat → Nat} {Q : State → Prop} {i cells slots : Nat} {Ls : Nat → SL} {Hs T M : SL} {dr hs o : Int64} {od : UInt64} {H : Heap} {locs : List Loc} {ls : Array Slot} (E : LX p l s m meth c bs L xs D cs ad) (hi : i + 6 ≤ L) (hc : cells + 3 ≤ room_1.cells ∧ slots + 18 ≤ room_1.slots) (hSS : SS Ls Hs T M) (hP : va_P D vwCl (wA cs ad Ls Hs T M dr hs o od) H) (hS : va_S (Afr ad s.heap.size) s.heap H locs) (hl : lv_has ls 9 (lvL bs ad (nI i))) (K : LK p l e s m bs below meth c D cs ad i cells slots Q) : W p l e room_1 s m #[.ref bs] below meth c H locs cells slots Q (F0 m 1503 ls []) := by
  obtain ⟨C, G, X, N, Y, sX, sL, sA, hL, hfl⟩ := E
  obtain ⟨bv, M', res, v, T', o', eM, eC, h4, hSS', hov, hu, hk⟩ := rt_out o (s_append hSS (xs (i + 1)))
  refine lv_aload_n C.1 C.2.1 dL_law_1503 rfl (lv_at hl 1 rfl) ?_
  refine lv_aload_n C.1 C.2.1 dL_law_1504 rfl (lv_at hl 0 rfl) ?_
  refine lv_iload C.1 C.2.1 dL_law_1505 (lv_at hl 5 rfl) ?_
  refine lv_iconst (v := 1) C.1 C.2.1 dL_law_1507 (by decide) ?_
  refine k_iadd C (np1 i) dL_law_1508 ?_
  refine k_sld C sX sL sA hL hS (show i + 1 < L by omega) dL_law_1509 ?_
  refine lv_aload_n C.1 C.2.1 dL_law_1510 rfl (lv_at hl 3 rfl) ?_
  have hM := m_L_append l hfl (D := D) (cs := cs) G.2.1 H.size (Ls := Ls) (Hs := Hs) (T := T) (M := M) (dr := dr) (hs := hs) (o := o) (od := od) eC (v := v) (w' := wA cs ad Ls Hs T' M dr hs o' od) (fun u hu1 => by
    obtain ⟨a1, a2, a4⟩ := hu u hu1
    exact ⟨a1, by rw [a2, a4]⟩) (fun k hk1 => by
    obtain ⟨⟨a2, a4⟩, q⟩ := hk k hk1
    exact ⟨by rw [a2, a4], dk_id q⟩)
  refine k_callSWi C G X N Y hP hS hM (vx_cwSW 3 C.2.2.2.2.2.1 wl_append rfl rfl rfl (by decide +kernel) ⟨Nat.le_of_ble_eq_true rfl, Nat.le_of_ble_eq_true rfl⟩) (As := [.ref (ad 0), .int (xs (i + 1)), .ref (ad 95)]) rfl hl.1 rfl (Nat.le_of_ble_eq_true rfl) dL_law_1511 ⟨by omega, by omega⟩ (fun H locs hP hS => ?_)
  refine lv_istore (lv' := [(6, .int v), (0, .ref bs), (1, .ref (ad 0)), (2, .ref (ad 89)), (3, .ref (ad 95)), (4, .ref (ad 96)), (5, .int (nI i))]) C.1 C.2.1 dL_law_1514 hl (by decide) rfl (fun ls hl => ?_)
  refine lv_aload_n C.1 C.2.1 dL_law_1516 rfl (lv_at hl 3 rfl) ?_
  refine lv_aload_n C.1 C.2.1 dL_law_1517 rfl (lv_at hl 1 rfl) ?_
  refine lv_iload C.1 C.2.1 dL_law_1518 (lv_at hl 6 rfl) ?_
  refine lv_iconst (v := 1) C.1 C.2.1 dL_law_1520 (by decide) ?_
  refine k_iadd C (np1 i) dL_law_1521 ?_
  refine k_sld C sX sL sA hL hS (show i + 1 < L by omega) dL_law_1522 ?_
  refine k_callVi C G hP hS (m_X6_append l G.2.1 _ eM) r_obj rfl (cwV 1 C.2.2.2.2.2.1 (lwG_up wg_X6_append) rfl rfl rfl (by decide +kernel) ⟨Nat.le_of_ble_eq_true rfl, Nat.le_of_ble_eq_true rfl⟩) (As := [.int (xs (i + 1))]) rfl hl.1 rfl (Nat.le_of_ble_eq_true rfl) dL_law_1523 ⟨by omega, by omega⟩ (fun H locs hP hS => ?_)
  have hP : va_P D vwCl (wA cs ad Ls Hs T' M' dr hs o' od) H := hP
  refine lv_istore (lv' := [(7, .int bv), (6, .int v), (0, .ref bs), (1, .ref (ad 0)), (2, .ref (ad 89)), (3, .ref (ad 95)), (4, .ref (ad 96)), (5, .int (nI i))]) C.1 C.2.1 dL_law_1526 hl (by decide) rfl (fun ls hl => ?_)
  refine lv_aload_n C.1 C.2.1 dL_law_1528 rfl (lv_at hl 4 rfl) ?_
  refine k_callVi C G hP hS (m_X6_thrown l G.2.1 _ (show f_X6_thrown M' = some v by rw [← h4]; rfl)) r_obj rfl (cwV 0 C.2.2.2.2.2.1 (lwG_up wg_X6_thrown) rfl rfl rfl (by decide +kernel) ⟨Nat.le_of_ble_eq_true rfl, Nat.le_of_ble_eq_true rfl⟩) (As := []) rfl hl.1 rfl (Nat.le_of_ble_eq_true rfl) dL_law_1529 ⟨by omega, by omega⟩ (fun H locs hP hS => ?_)
  refine lv_iload C.1 C.2.1 dL_law_1532 (lv_at hl 1 rfl) ?_
  refine lv_icmp_eq (tgt := 1539) C.1 C.2.1 dL_law_1534 (by decide) (fun _ => ?_) (fun z => absurd rfl z)
  refine lv_iload C.1 C.2.1 dL_law_1539 (lv_at hl 1 rfl) ?_
  have hSS := hSS'
  refine lv_if_ne (tgt := 1556) C.1 C.2.1 dL_law_1541 (by decide) (fun _ => ?_) (fun z => ?_)
  · refine lv_goto (tgt := 1643) C.1 C.2.1 dL_law_1556 (by decide) ?_
    refine W.widen (k := cells + 3) (n := slots + 18) (by omega) (by omega) ?_
    exact K _ _ _ _ _ _ _ _ _ _ _ hSS hP hS (lv_sub hl [2, 3, 4, 5, 6, 7] rfl)
  · refine lv_aload_n C.1 C.2.1 dL_law_1544 rfl (lv_at hl 5 rfl) ?_
    refine lv_iconst (v := 0) C.1 C.2.1 dL_law_1545 (by decide) ?_
    refine k_laldO C G hP dL_law_1546 ?_
    refine lv_iload C.1 C.2.1 dL_law_1547 (lv_at hl 0 rfl) ?_
    refine k_i2l C (hov z) dL_law_1549 ?_
    refine W.lcmp C.1 C.2.1 dL_law_1550 ?_
    refine lv_if_eq (tgt := 1556) C.1 C.2.1 dL_law_1551 (by decide) (fun _ => ?_) (fun q => absurd (lg_self _) q)
    refine lv_goto (tgt := 1643) C.1 C.2.1 dL_law_1556 (by decide) ?_
    refine W.widen (k := cells + 3) (n := slots + 18) (by omega) (by omega) ?_
    exact K _ _ _ _ _ _ _ _ _ _ _ hSS hP hS (lv_sub hl [2, 3, 4, 5, 6, 7] rfl)
theorem dL_law_1559 : decode cL_law 1559 = .ok (.aload_n 1, 1) := by decide +kernel
theorem dL_law_1560 : decode cL_law 1560 = .ok (.invokevirtual 172, 3) := by decide +kernel
theorem dL_law_1563 : decode cL_law 1563 = .ok (.aload_n 2, 1) := by decide +kernel
theorem dL_law_1564 : decode cL_law 1564 = .ok (.invokevirtual 175, 3) := by decide +kernel
theorem dL_law_1567 : decode cL_law 1567 = .ok (.if_icmp .eq 76, 3) := by decide +kernel
theorem dL_law_1570 : decode cL_law 1570 = .ok (.iconst 0, 1) := by decide +kernel
theorem dL_law_1571 : decode cL_law 1571 = .ok (.ireturn, 1) := by decide +kernel
set_option maxRecDepth 100000 in
set_option maxHeartbeats 4000000 in
theorem cs_clearText {p : Program} {l : Launch} {e : Env} {s : State} {m : MethodId} {below : List Frame} {meth : Method} {c : Code} {bs L : Nat} {xs : Nat → Int32} {D : va_G} {cs : Nat → ClassId} {ad : Nat → Nat} {Q : State → Prop} {i cells slots : Nat} {Ls : Nat → SL} {Hs T M : SL} {dr hs o : Int64} {od : UInt64} {H : Heap} {locs : List Loc} {ls : Array Slot} (E : LX p l s m meth c bs L xs D cs ad) (hi : i + 6 ≤ L) (hc : cells + 3 ≤ room_1.cells ∧ slots + 18 ≤ room_1.slots) (hSS : SS Ls Hs T M) (hP : va_P D vwCl (wA cs ad Ls Hs T M dr hs o od) H) (hS : va_S (Afr ad s.heap.size) s.heap H locs) (hl : lv_has ls 9 (lvL bs ad (nI i))) (K : LK p l e s m bs below meth c D cs ad i cells slots Q) : W p l e room_1 s m #[.ref bs] below meth c H locs cells slots Q (F0 m 1559 ls []) := by
  obtain ⟨C, G, X, N, Y, sX, sL, sA, hL, hfl⟩ := E
  obtain ⟨bv, T', M', eM, eC, hSS'⟩ := s_clearText hSS
  refine lv_aload_n C.1 C.2.1 dL_law_1559 rfl (lv_at hl 1 rfl) ?_
  refine k_callVi C G hP hS (m_X5_clearText l G.2.1 _ eC) g_obj rfl (cwV 0 C.2.2.2.2.2.1 (lwG_up wg_X5_clearText) rfl rfl rfl (by decide +kernel) ⟨Nat.le_of_ble_eq_true rfl, Nat.le_of_ble_eq_true rfl⟩) (As := []) rfl hl.1 rfl (Nat.le_of_ble_eq_true rfl) dL_law_1560 ⟨by omega, by omega⟩ (fun H locs hP hS => ?_)
  have hP : va_P D vwCl (wA cs ad Ls Hs T' M dr hs o od) H := hP
  refine lv_aload_n C.1 C.2.1 dL_law_1563 rfl (lv_at hl 2 rfl) ?_
  refine k_callVi C G hP hS (m_X6_clearText l G.2.1 _ eM) r_obj rfl (cwV 0 C.2.2.2.2.2.1 (lwG_up wg_X6_clearText) rfl rfl rfl (by decide +kernel) ⟨Nat.le_of_ble_eq_true rfl, Nat.le_of_ble_eq_true rfl⟩) (As := []) rfl hl.1 rfl (Nat.le_of_ble_eq_true rfl) dL_law_1564 ⟨by omega, by omega⟩ (fun H locs hP hS => ?_)
  have hP : va_P D vwCl (wA cs ad Ls Hs T' M' dr hs o od) H := hP
  refine lv_icmp_eq (tgt := 1643) C.1 C.2.1 dL_law_1567 (by decide) (fun _ => ?_) (fun q => absurd rfl q)
  have hSS := hSS'
  refine W.widen (k := cells + 3) (n := slots + 18) (by omega) (by omega) ?_
  exact K _ _ _ _ _ _ _ _ _ _ _ hSS hP hS (lv_sub hl [0, 1, 2, 3, 4, 5] rfl)
theorem dL_law_1572 : decode cL_law 1572 = .ok (.aload_n 1, 1) := by decide +kernel
theorem dL_law_1573 : decode cL_law 1573 = .ok (.invokevirtual 176, 3) := by decide +kernel
theorem dL_law_1576 : decode cL_law 1576 = .ok (.aload_n 2, 1) := by decide +kernel
theorem dL_law_1577 : decode cL_law 1577 = .ok (.invokevirtual 179, 3) := by decide +kernel
theorem dL_law_1580 : decode cL_law 1580 = .ok (.if_icmp .eq 63, 3) := by decide +kernel
theorem dL_law_1583 : decode cL_law 1583 = .ok (.iconst 0, 1) := by decide +kernel
theorem dL_law_1584 : decode cL_law 1584 = .ok (.ireturn, 1) := by decide +kernel
set_option maxRecDepth 100000 in
set_option maxHeartbeats 4000000 in
theorem cs_parse {p : Program} {l : Launch} {e : Env} {s : State} {m : MethodId} {below : List Frame} {meth : Method} {c : Code} {bs L : Nat} {xs : Nat → Int32} {D : va_G} {cs : Nat → ClassId} {ad : Nat → Nat} {Q : State → Prop} {i cells slots : Nat} {Ls : Nat → SL} {Hs T M : SL} {dr hs o : Int64} {od : UInt64} {H : Heap} {locs : List Loc} {ls : Array Slot} (E : LX p l s m meth c bs L xs D cs ad) (hi : i + 6 ≤ L) (hc : cells + 3 ≤ room_1.cells ∧ slots + 18 ≤ room_1.slots) (hSS : SS Ls Hs T M) (hP : va_P D vwCl (wA cs ad Ls Hs T M dr hs o od) H) (hS : va_S (Afr ad s.heap.size) s.heap H locs) (hl : lv_has ls 9 (lvL bs ad (nI i))) (K : LK p l e s m bs below meth c D cs ad i cells slots Q) : W p l e room_1 s m #[.ref bs] below meth c H locs cells slots Q (F0 m 1572 ls []) := by
  obtain ⟨C, G, X, N, Y, sX, sL, sA, hL, hfl⟩ := E
  obtain ⟨bv, Ls', Hs', T', M', eM, eC, hSS'⟩ := s_parse hSS
  refine lv_aload_n C.1 C.2.1 dL_law_1572 rfl (lv_at hl 1 rfl) ?_
  refine k_callVi C G hP hS (m_X5_parse l G.2.1 _ eC) g_obj rfl (cwV 0 C.2.2.2.2.2.1 (lwG_up wg_X5_parse) rfl rfl rfl (by decide +kernel) ⟨Nat.le_of_ble_eq_true rfl, Nat.le_of_ble_eq_true rfl⟩) (As := []) rfl hl.1 rfl (Nat.le_of_ble_eq_true rfl) dL_law_1573 ⟨by omega, by omega⟩ (fun H locs hP hS => ?_)
  have hP : va_P D vwCl (wA cs ad Ls' Hs' T' M dr hs o od) H := hP
  refine lv_aload_n C.1 C.2.1 dL_law_1576 rfl (lv_at hl 2 rfl) ?_
  refine k_callVi C G hP hS (m_X6_parse l G.2.1 _ eM) r_obj rfl (cwV 0 C.2.2.2.2.2.1 (lwG_up wg_X6_parse) rfl rfl rfl (by decide +kernel) ⟨Nat.le_of_ble_eq_true rfl, Nat.le_of_ble_eq_true rfl⟩) (As := []) rfl hl.1 rfl (Nat.le_of_ble_eq_true rfl) dL_law_1577 ⟨by omega, by omega⟩ (fun H locs hP hS => ?_)
  have hP : va_P D vwCl (wA cs ad Ls' Hs' T' M' dr hs o od) H := hP
  refine lv_icmp_eq (tgt := 1643) C.1 C.2.1 dL_law_1580 (by decide) (fun _ => ?_) (fun q => absurd rfl q)
  have hSS := hSS'
  refine W.widen (k := cells + 3) (n := slots + 18) (by omega) (by omega) ?_
  exact K _ _ _ _ _ _ _ _ _ _ _ hSS hP hS (lv_sub hl [0, 1, 2, 3, 4, 5] rfl)
theorem dL_law_1585 : decode cL_law 1585 = .ok (.aload_n 1, 1) := by decide +kernel
theorem dL_law_1586 : decode cL_law 1586 = .ok (.aload_n 3, 1) := by decide +kernel
theorem dL_law_1587 : decode cL_law 1587 = .ok (.invokestatic 180, 3) := by decide +kernel
theorem dL_law_1590 : decode cL_law 1590 = .ok (.istore 6, 2) := by decide +kernel
theorem dL_law_1592 : decode cL_law 1592 = .ok (.aload_n 2, 1) := by decide +kernel
theorem dL_law_1593 : decode cL_law 1593 = .ok (.invokevirtual 182, 3) := by decide +kernel
theorem dL_law_1596 : decode cL_law 1596 = .ok (.istore 7, 2) := by decide +kernel
theorem dL_law_1598 : decode cL_law 1598 = .ok (.aload_n 2, 1) := by decide +kernel
theorem dL_law_1599 : decode cL_law 1599 = .ok (.invokevirtual 88, 3) := by decide +kernel
theorem dL_law_1602 : decode cL_law 1602 = .ok (.iload 6, 2) := by decide +kernel
theorem dL_law_1604 : decode cL_law 1604 = .ok (.if_icmp .eq 5, 3) := by decide +kernel
theorem dL_law_1607 : decode cL_law 1607 = .ok (.iconst 0, 1) := by decide +kernel
theorem dL_law_1608 : decode cL_law 1608 = .ok (.ireturn, 1) := by decide +kernel
theorem dL_law_1609 : decode cL_law 1609 = .ok (.iload 6, 2) := by decide +kernel
theorem dL_law_1611 : decode cL_law 1611 = .ok (.ifCond .ne 15, 3) := by decide +kernel
theorem dL_law_1614 : decode cL_law 1614 = .ok (.aload_n 3, 1) := by decide +kernel
theorem dL_law_1615 : decode cL_law 1615 = .ok (.iconst 0, 1) := by decide +kernel
theorem dL_law_1616 : decode cL_law 1616 = .ok (.laload, 1) := by decide +kernel
theorem dL_law_1617 : decode cL_law 1617 = .ok (.iload 7, 2) := by decide +kernel
theorem dL_law_1619 : decode cL_law 1619 = .ok (.i2l, 1) := by decide +kernel
theorem dL_law_1620 : decode cL_law 1620 = .ok (.lcmp, 1) := by decide +kernel
theorem dL_law_1621 : decode cL_law 1621 = .ok (.ifCond .eq 5, 3) := by decide +kernel
theorem dL_law_1624 : decode cL_law 1624 = .ok (.iconst 0, 1) := by decide +kernel
theorem dL_law_1625 : decode cL_law 1625 = .ok (.ireturn, 1) := by decide +kernel
theorem dL_law_1626 : decode cL_law 1626 = .ok (.goto 17, 3) := by decide +kernel
set_option maxRecDepth 20000 in
theorem wl_undo : GoodIn lw_tbl (va_wsS RL 180 yL_undo wsW_undo) := goodIn_app (fun w h => ⟨in_idx [663, 664, 47] (by decide +kernel) w h, good_of_word (List.all_eq_true.mp (show ([.methodLink RL 180 yL_undo, .static yL_undo, .initialized yL_undo.cls] : List Cond).all goodWord = true from by decide +kernel) w h)⟩) (fun w h => (List.mem_cons.mp h).elim (fun q => q ▸ ⟨List.mem_of_getElem? (i := 665) (by decide +kernel), good_of_word rfl⟩) (fun q => lwG_self w q))
set_option maxRecDepth 100000 in
set_option maxHeartbeats 4000000 in
theorem cs_undo {p : Program} {l : Launch} {e : Env} {s : State} {m : MethodId} {below : List Frame} {meth : Method} {c : Code} {bs L : Nat} {xs : Nat → Int32} {D : va_G} {cs : Nat → ClassId} {ad : Nat → Nat} {Q : State → Prop} {i cells slots : Nat} {Ls : Nat → SL} {Hs T M : SL} {dr hs o : Int64} {od : UInt64} {H : Heap} {locs : List Loc} {ls : Array Slot} (E : LX p l s m meth c bs L xs D cs ad) (hi : i + 6 ≤ L) (hc : cells + 3 ≤ room_1.cells ∧ slots + 18 ≤ room_1.slots) (hSS : SS Ls Hs T M) (hP : va_P D vwCl (wA cs ad Ls Hs T M dr hs o od) H) (hS : va_S (Afr ad s.heap.size) s.heap H locs) (hl : lv_has ls 9 (lvL bs ad (nI i))) (K : LK p l e s m bs below meth c D cs ad i cells slots Q) : W p l e room_1 s m #[.ref bs] below meth c H locs cells slots Q (F0 m 1585 ls []) := by
  obtain ⟨C, G, X, N, Y, sX, sL, sA, hL, hfl⟩ := E
  obtain ⟨bv, M', res, v, Ls', Hs', o', eM, eC, h4, hSS', hov, hu, hk⟩ := r2_out o (s_undo hSS)
  refine lv_aload_n C.1 C.2.1 dL_law_1585 rfl (lv_at hl 1 rfl) ?_
  refine lv_aload_n C.1 C.2.1 dL_law_1586 rfl (lv_at hl 3 rfl) ?_
  have hM := m_L_undo l hfl (D := D) (cs := cs) G.2.1 H.size (Ls := Ls) (Hs := Hs) (T := T) (M := M) (dr := dr) (hs := hs) (o := o) (od := od) eC (v := v) (w' := wA cs ad Ls' Hs' T M dr hs o' od) (fun u hu1 => by
    obtain ⟨a1, a2, a3, a4⟩ := hu u hu1
    exact ⟨a1, by rw [a2, a3, a4]⟩) (fun k hk1 => by
    obtain ⟨⟨a2, a3, a4⟩, q⟩ := hk k hk1
    exact ⟨by rw [a2, a3, a4], dk_2 q⟩)
  refine k_callSWi C G X N Y hP hS hM (vx_cwSW 2 C.2.2.2.2.2.1 wl_undo rfl rfl rfl (by decide +kernel) ⟨Nat.le_of_ble_eq_true rfl, Nat.le_of_ble_eq_true rfl⟩) (As := [.ref (ad 0), .ref (ad 95)]) rfl hl.1 rfl (Nat.le_of_ble_eq_true rfl) dL_law_1587 ⟨by omega, by omega⟩ (fun H locs hP hS => ?_)
  refine lv_istore (lv' := [(6, .int v), (0, .ref bs), (1, .ref (ad 0)), (2, .ref (ad 89)), (3, .ref (ad 95)), (4, .ref (ad 96)), (5, .int (nI i))]) C.1 C.2.1 dL_law_1590 hl (by decide) rfl (fun ls hl => ?_)
  refine lv_aload_n C.1 C.2.1 dL_law_1592 rfl (lv_at hl 3 rfl) ?_
  refine k_callVi C G hP hS (m_X6_undo l G.2.1 _ eM) r_obj rfl (cwV 0 C.2.2.2.2.2.1 (lwG_up wg_X6_undo) rfl rfl rfl (by decide +kernel) ⟨Nat.le_of_ble_eq_true rfl, Nat.le_of_ble_eq_true rfl⟩) (As := []) rfl hl.1 rfl (Nat.le_of_ble_eq_true rfl) dL_law_1593 ⟨by omega, by omega⟩ (fun H locs hP hS => ?_)
  have hP : va_P D vwCl (wA cs ad Ls' Hs' T M' dr hs o' od) H := hP
  refine lv_istore (lv' := [(7, .int bv), (6, .int v), (0, .ref bs), (1, .ref (ad 0)), (2, .ref (ad 89)), (3, .ref (ad 95)), (4, .ref (ad 96)), (5, .int (nI i))]) C.1 C.2.1 dL_law_1596 hl (by decide) rfl (fun ls hl => ?_)
  refine lv_aload_n C.1 C.2.1 dL_law_1598 rfl (lv_at hl 4 rfl) ?_
  refine k_callVi C G hP hS (m_X6_thrown l G.2.1 _ (show f_X6_thrown M' = some v by rw [← h4]; rfl)) r_obj rfl (cwV 0 C.2.2.2.2.2.1 (lwG_up wg_X6_thrown) rfl rfl rfl (by decide +kernel) ⟨Nat.le_of_ble_eq_true rfl, Nat.le_of_ble_eq_true rfl⟩) (As := []) rfl hl.1 rfl (Nat.le_of_ble_eq_true rfl) dL_law_1599 ⟨by omega, by omega⟩ (fun H locs hP hS => ?_)
  refine lv_iload C.1 C.2.1 dL_law_1602 (lv_at hl 1 rfl) ?_
  refine lv_icmp_eq (tgt := 1609) C.1 C.2.1 dL_law_1604 (by decide) (fun _ => ?_) (fun z => absurd rfl z)
  refine lv_iload C.1 C.2.1 dL_law_1609 (lv_at hl 1 rfl) ?_
  have hSS := hSS'
  refine lv_if_ne (tgt := 1626) C.1 C.2.1 dL_law_1611 (by decide) (fun _ => ?_) (fun z => ?_)
  · refine lv_goto (tgt := 1643) C.1 C.2.1 dL_law_1626 (by decide) ?_
    refine W.widen (k := cells + 3) (n := slots + 18) (by omega) (by omega) ?_
    exact K _ _ _ _ _ _ _ _ _ _ _ hSS hP hS (lv_sub hl [2, 3, 4, 5, 6, 7] rfl)
  · refine lv_aload_n C.1 C.2.1 dL_law_1614 rfl (lv_at hl 5 rfl) ?_
    refine lv_iconst (v := 0) C.1 C.2.1 dL_law_1615 (by decide) ?_
    refine k_laldO C G hP dL_law_1616 ?_
    refine lv_iload C.1 C.2.1 dL_law_1617 (lv_at hl 0 rfl) ?_
    refine k_i2l C (hov z) dL_law_1619 ?_
    refine W.lcmp C.1 C.2.1 dL_law_1620 ?_
    refine lv_if_eq (tgt := 1626) C.1 C.2.1 dL_law_1621 (by decide) (fun _ => ?_) (fun q => absurd (lg_self _) q)
    refine lv_goto (tgt := 1643) C.1 C.2.1 dL_law_1626 (by decide) ?_
    refine W.widen (k := cells + 3) (n := slots + 18) (by omega) (by omega) ?_
    exact K _ _ _ _ _ _ _ _ _ _ _ hSS hP hS (lv_sub hl [2, 3, 4, 5, 6, 7] rfl)
theorem dL_law_1629 : decode cL_law 1629 = .ok (.aload_n 1, 1) := by decide +kernel
theorem dL_law_1630 : decode cL_law 1630 = .ok (.invokevirtual 183, 3) := by decide +kernel
theorem dL_law_1633 : decode cL_law 1633 = .ok (.aload_n 2, 1) := by decide +kernel
theorem dL_law_1634 : decode cL_law 1634 = .ok (.invokevirtual 187, 3) := by decide +kernel
theorem dL_law_1637 : decode cL_law 1637 = .ok (.lcmp, 1) := by decide +kernel
theorem dL_law_1638 : decode cL_law 1638 = .ok (.ifCond .eq 5, 3) := by decide +kernel
theorem dL_law_1641 : decode cL_law 1641 = .ok (.iconst 0, 1) := by decide +kernel
theorem dL_law_1642 : decode cL_law 1642 = .ok (.ireturn, 1) := by decide +kernel
set_option maxRecDepth 100000 in
set_option maxHeartbeats 4000000 in
theorem cs_digest {p : Program} {l : Launch} {e : Env} {s : State} {m : MethodId} {below : List Frame} {meth : Method} {c : Code} {bs L : Nat} {xs : Nat → Int32} {D : va_G} {cs : Nat → ClassId} {ad : Nat → Nat} {Q : State → Prop} {i cells slots : Nat} {Ls : Nat → SL} {Hs T M : SL} {dr hs o : Int64} {od : UInt64} {H : Heap} {locs : List Loc} {ls : Array Slot} (E : LX p l s m meth c bs L xs D cs ad) (hi : i + 6 ≤ L) (hc : cells + 3 ≤ room_1.cells ∧ slots + 18 ≤ room_1.slots) (hSS : SS Ls Hs T M) (hP : va_P D vwCl (wA cs ad Ls Hs T M dr hs o od) H) (hS : va_S (Afr ad s.heap.size) s.heap H locs) (hl : lv_has ls 9 (lvL bs ad (nI i))) (K : LK p l e s m bs below meth c D cs ad i cells slots Q) : W p l e room_1 s m #[.ref bs] below meth c H locs cells slots Q (F0 m 1629 ls []) := by
  obtain ⟨C, G, X, N, Y, sX, sL, sA, hL, hfl⟩ := E
  obtain ⟨bv, hs', eC, eM, hSS'⟩ := s_digest hSS hs
  refine lv_aload_n C.1 C.2.1 dL_law_1629 rfl (lv_at hl 1 rfl) ?_
  refine k_callVl C G hP hS (m_X5_digest l G.2.1 _ eC) g_obj rfl (cwV 0 C.2.2.2.2.2.1 (lwG_up wg_X5_digest) rfl rfl rfl (by decide +kernel) ⟨Nat.le_of_ble_eq_true rfl, Nat.le_of_ble_eq_true rfl⟩) (As := []) rfl hl.1 rfl (Nat.le_of_ble_eq_true rfl) dL_law_1630 ⟨by omega, by omega⟩ (fun H locs hP hS => ?_)
  have hP : va_P D vwCl (wA cs ad Ls Hs T M dr hs o od) H := hP
  refine lv_aload_n C.1 C.2.1 dL_law_1633 rfl (lv_at hl 2 rfl) ?_
  refine k_callVl C G hP hS (m_X6_digest l G.2.1 _ eM) r_obj rfl (cwV 0 C.2.2.2.2.2.1 (lwG_up wg_X6_digest) rfl rfl rfl (by decide +kernel) ⟨Nat.le_of_ble_eq_true rfl, Nat.le_of_ble_eq_true rfl⟩) (As := []) rfl hl.1 rfl (Nat.le_of_ble_eq_true rfl) dL_law_1634 ⟨by omega, by omega⟩ (fun H locs hP hS => ?_)
  have hP : va_P D vwCl (wA cs ad Ls Hs T (up2 M 0 4 0) dr hs' o od) H := hP
  refine W.lcmp C.1 C.2.1 dL_law_1637 ?_
  refine lv_if_eq (tgt := 1643) C.1 C.2.1 dL_law_1638 (by decide) (fun _ => ?_) (fun q => absurd (lg_self _) q)
  have hSS := hSS'
  refine W.widen (k := cells + 3) (n := slots + 18) (by omega) (by omega) ?_
  exact K _ _ _ _ _ _ _ _ _ _ _ hSS hP hS (lv_sub hl [0, 1, 2, 3, 4, 5] rfl)
