/-! THE LAW'S CASES, 21 to 27. -/
set_option maxHeartbeats 4000000 in
set_option maxRecDepth 100000 in
theorem lc_opens {p : Program} {l : Launch} {e : Env} {s : State} {m : MethodId} {below : List Frame} {meth : Method} {c : Code} (hfl : l.stackTraces = false) {b L : Nat} {xs : Nat → Int32} {D : va_G} {Z : Nat → Nat} {N0 : Nat} {Q : State → Prop} (M : Mx p m c cL_law 9 s #[Value.ref b] wsL_law RL D Z N0) (hX : va_X b L xs s s.heap) (hbl : b < s.heap.size) (hbA : ¬ AA N0 b) (hL : L ≤ 2560) {k : Nat} (hk : 5 * k + 5 ≤ L) {g : T3} {ad : T2} {H : Heap} {locs : List Loc} {ls : Array Slot} {cells slots : Nat} (hc9 : cells + 4 ≤ 603072) (hs9 : slots + 40 ≤ 7219305) (hR : Rel g) (hIv : Iv g) (hK : Kv g) (hW : Wd D Z N0 g ad H) (hS : va_S (AA N0) s.heap H locs) (hl : lv_has ls 9 (lvL b ad k)) (next : LN p l e s m b below meth c D Z N0 Q k cells slots) : W p l e room_1 s m #[Value.ref b] below meth c H locs cells slots Q (F0 m 1344 ls []) := by
  have hx := M.1.1
  have hb := M.1.2.1
  have hts := M.1.2.2.2.2
  have hO := hW.2.2.1
  have hl : lv_has ls 9 [(5, .int (nI (5 * k))), (4, .ref (ad 41 0)), (3, .ref (ad 40 0)), (2, .ref (ad 20 0)), (1, .ref (ad 0 0)), (0, .ref b)] := hl
  refine lv_aload_n hx hb dL_law_1344 rfl (lv_at hl 4 rfl) ?_
  refine lv_aload_n hx hb dL_law_1345 rfl (lv_at hl 5 rfl) ?_
  refine lv_iload hx hb dL_law_1346 (lv_at hl 0 rfl) ?_
  refine lv_iconst (v := nI 1) hx hb dL_law_1348 (by decide) ?_
  refine n_iadd hx hb dL_law_1349 ?_
  refine r_sld M hX hbl hbA hS (by omega) (by omega) dL_law_1350 ?_
  refine lv_aload_n hx hb dL_law_1351 rfl (lv_at hl 2 rfl) ?_
  refine k_ci (vx_runSW (As := [.ref (ad 0 0), .int (xs (5 * k + 1)), .ref (ad 40 0)]) (rest := []) M.1 (c_L_opens l hfl D Z N0 g ad (xs (5 * k + 1))) (vx_cwSW 3 hts gL_law_L_opens rfl rfl rfl (by decide +kernel) ⟨(Nat.le_of_ble_eq_true rfl), (Nat.le_of_ble_eq_true rfl)⟩) (k_pS M hW hS) rfl rfl hl.1 rfl (lv_room (Nat.le_of_ble_eq_true rfl)) dL_law_1352 ⟨(show cells + 1 ≤ 603072 by omega), (show slots + 6 ≤ 7219305 by omega)⟩) hS (fun r1 g1 H locs hp hW hS => ?_)
  obtain ⟨hf1, h1⟩ := hp
  refine lv_istore (lv' := [(6, .int (r1)), (5, .int (nI (5 * k))), (4, .ref (ad 41 0)), (3, .ref (ad 40 0)), (2, .ref (ad 20 0)), (1, .ref (ad 0 0)), (0, .ref b)]) hx hb dL_law_1355 hl (by decide) rfl (fun ls hl => ?_)
  refine lv_aload_n hx hb dL_law_1357 rfl (lv_at hl 4 rfl) ?_
  refine lv_aload_n hx hb dL_law_1358 rfl (lv_at hl 6 rfl) ?_
  refine lv_iload hx hb dL_law_1359 (lv_at hl 1 rfl) ?_
  refine lv_iconst (v := nI 1) hx hb dL_law_1361 (by decide) ?_
  refine n_iadd hx hb dL_law_1362 ?_
  refine r_sld M hX hbl hbA hS (by omega) (by omega) dL_law_1363 ?_
  refine k_ci (k_rV (As := [.int (xs (5 * k + 1))]) (rest := []) M hW hS (c_X5_opens l D Z N0 g1 ad (xs (5 * k + 1))) (cwV 1 hts gL_law_X5_opens rfl rfl rfl (by decide +kernel) ⟨(Nat.le_of_ble_eq_true rfl), (Nat.le_of_ble_eq_true rfl)⟩) (r_recv M.2 hW 20 0 (lvM _) rfl rfl) rfl hl.1 rfl (Nat.le_of_ble_eq_true rfl) dL_law_1364 ⟨(show (cells + 1) + 0 ≤ 603072 by omega), (show (slots + 6) + 0 ≤ 7219305 by omega)⟩) hS (fun r2 g2 H locs hp hW hS => ?_)
  obtain ⟨hf2, h2⟩ := hp
  have st9 := st_opens (y := 0) (z := 0) (u := 0) (b := 0) hR hK hO h1 h2
  obtain ⟨kk, bb, hk3, rfl, h20, hb9, rfl, hv, hR2, hK2⟩ := st9
  have hIv2 : Iv g2 := hIv.fr (hf1.trans hf2)
  refine lv_istore (lv' := [(7, .int (nI (bb))), (6, .int (nI (kk))), (5, .int (nI (5 * k))), (4, .ref (ad 41 0)), (3, .ref (ad 40 0)), (2, .ref (ad 20 0)), (1, .ref (ad 0 0)), (0, .ref b)]) hx hb dL_law_1367 hl (by decide) rfl (fun ls hl => ?_)
  refine lv_aload_n hx hb dL_law_1369 rfl (lv_at hl 5 rfl) ?_
  refine k_ci (k_rV (As := []) (rest := []) M hW hS (c_X5_thrown l D Z N0 g2 ad) (cwV 0 hts gL_law_X5_thrown rfl rfl rfl (by decide +kernel) ⟨(Nat.le_of_ble_eq_true rfl), (Nat.le_of_ble_eq_true rfl)⟩) (r_recv M.2 hW 20 0 (lvM _) rfl rfl) rfl hl.1 rfl (Nat.le_of_ble_eq_true rfl) dL_law_1370 ⟨(show ((cells + 1) + 0) + 0 ≤ 603072 by omega), (show ((slots + 6) + 0) + 0 ≤ 7219305 by omega)⟩) hS (fun r3 g3 H locs hp hW hS => ?_)
  obtain ⟨-, rfl, rfl⟩ := hp
  refine lv_iload hx hb dL_law_1373 (lv_at hl 1 rfl) ?_
  refine lv_icmp_eq (tgt := 1380) hx hb dL_law_1375 (by decide) (fun _ => ?_) (fun h9 => absurd (congrArg nI h20) h9)
  refine lv_iload hx hb dL_law_1380 (lv_at hl 1 rfl) ?_
  refine n_if_ne (tgt := 1404) hx hb (by omega) dL_law_1382 (by decide) (fun hz => ?_) (fun hz => ?_)
  · refine lv_goto (tgt := 1797) hx hb dL_law_1404 (by decide) ?_
    refine W.widen (k := cells + 4) (n := slots + 40) (by omega) (by omega) ?_
    exact next g2 ad _ _ _ hR2 hIv2 hK2 hW hS (lv_sub hl [2, 3, 4, 5, 6, 7] rfl)
  · refine lv_aload_n hx hb dL_law_1385 rfl (lv_at hl 4 rfl) ?_
    refine lv_iconst (v := nI 0) hx hb dL_law_1386 (by decide) ?_
    refine r_lld M hW dL_law_1387 ?_
    refine lv_iload hx hb dL_law_1388 (lv_at hl 0 rfl) ?_
    refine n_if_eq (tgt := 1397) hx hb (by omega) dL_law_1390 (by decide) (fun hb0 => ?_) (fun hb0 => ?_)
    · refine lv_lconst (v := lN 0) hx hb dL_law_1397 rfl ?_
      refine W.lcmp hx hb dL_law_1398 ?_
      refine W.eq (g2 := F0 m 1399 ls [.int (nI 0)]) (congrArg (fun z => F0 m 1399 ls [.int z]) (by rw [hv hz, hb0]; exact lcz _)) ?_
      refine n_if_eq (tgt := 1404) hx hb (by decide) dL_law_1399 (by decide) (fun _ => ?_) (fun h9 => absurd rfl h9)
      refine lv_goto (tgt := 1797) hx hb dL_law_1404 (by decide) ?_
      refine W.widen (k := cells + 4) (n := slots + 40) (by omega) (by omega) ?_
      exact next g2 ad _ _ _ hR2 hIv2 hK2 hW hS (lv_sub hl [2, 3, 4, 5, 6, 7] rfl)
    · refine lv_lconst (v := lN 1) hx hb dL_law_1393 rfl ?_
      refine lv_goto (tgt := 1398) hx hb dL_law_1394 (by decide) ?_
      refine W.lcmp hx hb dL_law_1398 ?_
      refine W.eq (g2 := F0 m 1399 ls [.int (nI 0)]) (congrArg (fun z => F0 m 1399 ls [.int z]) (by rw [hv hz, show bb = 1 by omega]; exact lcz _)) ?_
      refine n_if_eq (tgt := 1404) hx hb (by decide) dL_law_1399 (by decide) (fun _ => ?_) (fun h9 => absurd rfl h9)
      refine lv_goto (tgt := 1797) hx hb dL_law_1404 (by decide) ?_
      refine W.widen (k := cells + 4) (n := slots + 40) (by omega) (by omega) ?_
      exact next g2 ad _ _ _ hR2 hIv2 hK2 hW hS (lv_sub hl [2, 3, 4, 5, 6, 7] rfl)

set_option maxHeartbeats 4000000 in
set_option maxRecDepth 100000 in
theorem lc_isLost {p : Program} {l : Launch} {e : Env} {s : State} {m : MethodId} {below : List Frame} {meth : Method} {c : Code} (hfl : l.stackTraces = false) {b L : Nat} {xs : Nat → Int32} {D : va_G} {Z : Nat → Nat} {N0 : Nat} {Q : State → Prop} (M : Mx p m c cL_law 9 s #[Value.ref b] wsL_law RL D Z N0) (hX : va_X b L xs s s.heap) (hbl : b < s.heap.size) (hbA : ¬ AA N0 b) (hL : L ≤ 2560) {k : Nat} (hk : 5 * k + 5 ≤ L) {g : T3} {ad : T2} {H : Heap} {locs : List Loc} {ls : Array Slot} {cells slots : Nat} (hc9 : cells + 4 ≤ 603072) (hs9 : slots + 40 ≤ 7219305) (hR : Rel g) (hIv : Iv g) (hK : Kv g) (hW : Wd D Z N0 g ad H) (hS : va_S (AA N0) s.heap H locs) (hl : lv_has ls 9 (lvL b ad k)) (next : LN p l e s m b below meth c D Z N0 Q k cells slots) : W p l e room_1 s m #[Value.ref b] below meth c H locs cells slots Q (F0 m 1407 ls []) := by
  have hx := M.1.1
  have hb := M.1.2.1
  have hts := M.1.2.2.2.2
  have hO := hW.2.2.1
  have hl : lv_has ls 9 [(5, .int (nI (5 * k))), (4, .ref (ad 41 0)), (3, .ref (ad 40 0)), (2, .ref (ad 20 0)), (1, .ref (ad 0 0)), (0, .ref b)] := hl
  refine lv_aload_n hx hb dL_law_1407 rfl (lv_at hl 4 rfl) ?_
  refine lv_aload_n hx hb dL_law_1408 rfl (lv_at hl 5 rfl) ?_
  refine lv_iload hx hb dL_law_1409 (lv_at hl 0 rfl) ?_
  refine lv_iconst (v := nI 1) hx hb dL_law_1411 (by decide) ?_
  refine n_iadd hx hb dL_law_1412 ?_
  refine r_sld M hX hbl hbA hS (by omega) (by omega) dL_law_1413 ?_
  refine lv_aload_n hx hb dL_law_1414 rfl (lv_at hl 2 rfl) ?_
  refine k_ci (vx_runSW (As := [.ref (ad 0 0), .int (xs (5 * k + 1)), .ref (ad 40 0)]) (rest := []) M.1 (c_L_isLost l hfl D Z N0 g ad (xs (5 * k + 1))) (vx_cwSW 3 hts gL_law_L_isLost rfl rfl rfl (by decide +kernel) ⟨(Nat.le_of_ble_eq_true rfl), (Nat.le_of_ble_eq_true rfl)⟩) (k_pS M hW hS) rfl rfl hl.1 rfl (lv_room (Nat.le_of_ble_eq_true rfl)) dL_law_1415 ⟨(show cells + 1 ≤ 603072 by omega), (show slots + 6 ≤ 7219305 by omega)⟩) hS (fun r1 g1 H locs hp hW hS => ?_)
  obtain ⟨hf1, h1⟩ := hp
  refine lv_istore (lv' := [(6, .int (r1)), (5, .int (nI (5 * k))), (4, .ref (ad 41 0)), (3, .ref (ad 40 0)), (2, .ref (ad 20 0)), (1, .ref (ad 0 0)), (0, .ref b)]) hx hb dL_law_1418 hl (by decide) rfl (fun ls hl => ?_)
  refine lv_aload_n hx hb dL_law_1420 rfl (lv_at hl 4 rfl) ?_
  refine lv_aload_n hx hb dL_law_1421 rfl (lv_at hl 6 rfl) ?_
  refine lv_iload hx hb dL_law_1422 (lv_at hl 1 rfl) ?_
  refine lv_iconst (v := nI 1) hx hb dL_law_1424 (by decide) ?_
  refine n_iadd hx hb dL_law_1425 ?_
  refine r_sld M hX hbl hbA hS (by omega) (by omega) dL_law_1426 ?_
  refine k_ci (k_rV (As := [.int (xs (5 * k + 1))]) (rest := []) M hW hS (c_X5_isLost l D Z N0 g1 ad (xs (5 * k + 1))) (cwV 1 hts gL_law_X5_isLost rfl rfl rfl (by decide +kernel) ⟨(Nat.le_of_ble_eq_true rfl), (Nat.le_of_ble_eq_true rfl)⟩) (r_recv M.2 hW 20 0 (lvM _) rfl rfl) rfl hl.1 rfl (Nat.le_of_ble_eq_true rfl) dL_law_1427 ⟨(show (cells + 1) + 0 ≤ 603072 by omega), (show (slots + 6) + 0 ≤ 7219305 by omega)⟩) hS (fun r2 g2 H locs hp hW hS => ?_)
  obtain ⟨hf2, h2⟩ := hp
  have st9 := st_isLost (y := 0) (z := 0) (u := 0) (b := 0) hR hK hO h1 h2
  obtain ⟨kk, bb, hk3, rfl, h20, hb9, rfl, hv, hR2, hK2⟩ := st9
  have hIv2 : Iv g2 := hIv.fr (hf1.trans hf2)
  refine lv_istore (lv' := [(7, .int (nI (bb))), (6, .int (nI (kk))), (5, .int (nI (5 * k))), (4, .ref (ad 41 0)), (3, .ref (ad 40 0)), (2, .ref (ad 20 0)), (1, .ref (ad 0 0)), (0, .ref b)]) hx hb dL_law_1430 hl (by decide) rfl (fun ls hl => ?_)
  refine lv_aload_n hx hb dL_law_1432 rfl (lv_at hl 5 rfl) ?_
  refine k_ci (k_rV (As := []) (rest := []) M hW hS (c_X5_thrown l D Z N0 g2 ad) (cwV 0 hts gL_law_X5_thrown rfl rfl rfl (by decide +kernel) ⟨(Nat.le_of_ble_eq_true rfl), (Nat.le_of_ble_eq_true rfl)⟩) (r_recv M.2 hW 20 0 (lvM _) rfl rfl) rfl hl.1 rfl (Nat.le_of_ble_eq_true rfl) dL_law_1433 ⟨(show ((cells + 1) + 0) + 0 ≤ 603072 by omega), (show ((slots + 6) + 0) + 0 ≤ 7219305 by omega)⟩) hS (fun r3 g3 H locs hp hW hS => ?_)
  obtain ⟨-, rfl, rfl⟩ := hp
  refine lv_iload hx hb dL_law_1436 (lv_at hl 1 rfl) ?_
  refine lv_icmp_eq (tgt := 1443) hx hb dL_law_1438 (by decide) (fun _ => ?_) (fun h9 => absurd (congrArg nI h20) h9)
  refine lv_iload hx hb dL_law_1443 (lv_at hl 1 rfl) ?_
  refine n_if_ne (tgt := 1467) hx hb (by omega) dL_law_1445 (by decide) (fun hz => ?_) (fun hz => ?_)
  · refine lv_goto (tgt := 1797) hx hb dL_law_1467 (by decide) ?_
    refine W.widen (k := cells + 4) (n := slots + 40) (by omega) (by omega) ?_
    exact next g2 ad _ _ _ hR2 hIv2 hK2 hW hS (lv_sub hl [2, 3, 4, 5, 6, 7] rfl)
  · refine lv_aload_n hx hb dL_law_1448 rfl (lv_at hl 4 rfl) ?_
    refine lv_iconst (v := nI 0) hx hb dL_law_1449 (by decide) ?_
    refine r_lld M hW dL_law_1450 ?_
    refine lv_iload hx hb dL_law_1451 (lv_at hl 0 rfl) ?_
    refine n_if_eq (tgt := 1460) hx hb (by omega) dL_law_1453 (by decide) (fun hb0 => ?_) (fun hb0 => ?_)
    · refine lv_lconst (v := lN 0) hx hb dL_law_1460 rfl ?_
      refine W.lcmp hx hb dL_law_1461 ?_
      refine W.eq (g2 := F0 m 1462 ls [.int (nI 0)]) (congrArg (fun z => F0 m 1462 ls [.int z]) (by rw [hv hz, hb0]; exact lcz _)) ?_
      refine n_if_eq (tgt := 1467) hx hb (by decide) dL_law_1462 (by decide) (fun _ => ?_) (fun h9 => absurd rfl h9)
      refine lv_goto (tgt := 1797) hx hb dL_law_1467 (by decide) ?_
      refine W.widen (k := cells + 4) (n := slots + 40) (by omega) (by omega) ?_
      exact next g2 ad _ _ _ hR2 hIv2 hK2 hW hS (lv_sub hl [2, 3, 4, 5, 6, 7] rfl)
    · refine lv_lconst (v := lN 1) hx hb dL_law_1456 rfl ?_
      refine lv_goto (tgt := 1461) hx hb dL_law_1457 (by decide) ?_
      refine W.lcmp hx hb dL_law_1461 ?_
      refine W.eq (g2 := F0 m 1462 ls [.int (nI 0)]) (congrArg (fun z => F0 m 1462 ls [.int z]) (by rw [hv hz, show bb = 1 by omega]; exact lcz _)) ?_
      refine n_if_eq (tgt := 1467) hx hb (by decide) dL_law_1462 (by decide) (fun _ => ?_) (fun h9 => absurd rfl h9)
      refine lv_goto (tgt := 1797) hx hb dL_law_1467 (by decide) ?_
      refine W.widen (k := cells + 4) (n := slots + 40) (by omega) (by omega) ?_
      exact next g2 ad _ _ _ hR2 hIv2 hK2 hW hS (lv_sub hl [2, 3, 4, 5, 6, 7] rfl)

set_option maxHeartbeats 4000000 in
set_option maxRecDepth 100000 in
theorem lc_nextOpen {p : Program} {l : Launch} {e : Env} {s : State} {m : MethodId} {below : List Frame} {meth : Method} {c : Code} (hfl : l.stackTraces = false) {b L : Nat} {xs : Nat → Int32} {D : va_G} {Z : Nat → Nat} {N0 : Nat} {Q : State → Prop} (M : Mx p m c cL_law 9 s #[Value.ref b] wsL_law RL D Z N0) (hX : va_X b L xs s s.heap) (hbl : b < s.heap.size) (hbA : ¬ AA N0 b) (hL : L ≤ 2560) {k : Nat} (hk : 5 * k + 5 ≤ L) {g : T3} {ad : T2} {H : Heap} {locs : List Loc} {ls : Array Slot} {cells slots : Nat} (hc9 : cells + 4 ≤ 603072) (hs9 : slots + 40 ≤ 7219305) (hR : Rel g) (hIv : Iv g) (hK : Kv g) (hW : Wd D Z N0 g ad H) (hS : va_S (AA N0) s.heap H locs) (hl : lv_has ls 9 (lvL b ad k)) (next : LN p l e s m b below meth c D Z N0 Q k cells slots) : W p l e room_1 s m #[Value.ref b] below meth c H locs cells slots Q (F0 m 1470 ls []) := by
  have hx := M.1.1
  have hb := M.1.2.1
  have hts := M.1.2.2.2.2
  have hO := hW.2.2.1
  have hl : lv_has ls 9 [(5, .int (nI (5 * k))), (4, .ref (ad 41 0)), (3, .ref (ad 40 0)), (2, .ref (ad 20 0)), (1, .ref (ad 0 0)), (0, .ref b)] := hl
  refine lv_aload_n hx hb dL_law_1470 rfl (lv_at hl 4 rfl) ?_
  refine lv_aload_n hx hb dL_law_1471 rfl (lv_at hl 5 rfl) ?_
  refine lv_iload hx hb dL_law_1472 (lv_at hl 0 rfl) ?_
  refine lv_iconst (v := nI 1) hx hb dL_law_1474 (by decide) ?_
  refine n_iadd hx hb dL_law_1475 ?_
  refine r_sld M hX hbl hbA hS (by omega) (by omega) dL_law_1476 ?_
  refine lv_aload_n hx hb dL_law_1477 rfl (lv_at hl 2 rfl) ?_
  refine k_ci (vx_runSW (As := [.ref (ad 0 0), .int (xs (5 * k + 1)), .ref (ad 40 0)]) (rest := []) M.1 (c_L_nextOpen l hfl D Z N0 g ad (xs (5 * k + 1))) (vx_cwSW 3 hts gL_law_L_nextOpen rfl rfl rfl (by decide +kernel) ⟨(Nat.le_of_ble_eq_true rfl), (Nat.le_of_ble_eq_true rfl)⟩) (k_pS M hW hS) rfl rfl hl.1 rfl (lv_room (Nat.le_of_ble_eq_true rfl)) dL_law_1478 ⟨(show cells + 1 ≤ 603072 by omega), (show slots + 6 ≤ 7219305 by omega)⟩) hS (fun r1 g1 H locs hp hW hS => ?_)
  obtain ⟨hf1, h1⟩ := hp
  refine lv_istore (lv' := [(6, .int (r1)), (5, .int (nI (5 * k))), (4, .ref (ad 41 0)), (3, .ref (ad 40 0)), (2, .ref (ad 20 0)), (1, .ref (ad 0 0)), (0, .ref b)]) hx hb dL_law_1481 hl (by decide) rfl (fun ls hl => ?_)
  refine lv_aload_n hx hb dL_law_1483 rfl (lv_at hl 4 rfl) ?_
  refine lv_aload_n hx hb dL_law_1484 rfl (lv_at hl 6 rfl) ?_
  refine lv_iload hx hb dL_law_1485 (lv_at hl 1 rfl) ?_
  refine lv_iconst (v := nI 1) hx hb dL_law_1487 (by decide) ?_
  refine n_iadd hx hb dL_law_1488 ?_
  refine r_sld M hX hbl hbA hS (by omega) (by omega) dL_law_1489 ?_
  refine k_ci (k_rV (As := [.int (xs (5 * k + 1))]) (rest := []) M hW hS (c_X5_nextOpen l D Z N0 g1 ad (xs (5 * k + 1))) (cwV 1 hts gL_law_X5_nextOpen rfl rfl rfl (by decide +kernel) ⟨(Nat.le_of_ble_eq_true rfl), (Nat.le_of_ble_eq_true rfl)⟩) (r_recv M.2 hW 20 0 (lvM _) rfl rfl) rfl hl.1 rfl (Nat.le_of_ble_eq_true rfl) dL_law_1490 ⟨(show (cells + 1) + 0 ≤ 603072 by omega), (show (slots + 6) + 0 ≤ 7219305 by omega)⟩) hS (fun r2 g2 H locs hp hW hS => ?_)
  obtain ⟨hf2, h2⟩ := hp
  have st9 := st_nextOpen (y := 0) (z := 0) (u := 0) (b := 0) hR hK hO h1 h2
  obtain ⟨kk, hk3, rfl, h20, hv, hR2, hK2⟩ := st9
  have hIv2 : Iv g2 := hIv.fr (hf1.trans hf2)
  refine lv_istore (lv' := [(7, .int (r2)), (6, .int (nI (kk))), (5, .int (nI (5 * k))), (4, .ref (ad 41 0)), (3, .ref (ad 40 0)), (2, .ref (ad 20 0)), (1, .ref (ad 0 0)), (0, .ref b)]) hx hb dL_law_1493 hl (by decide) rfl (fun ls hl => ?_)
  refine lv_aload_n hx hb dL_law_1495 rfl (lv_at hl 5 rfl) ?_
  refine k_ci (k_rV (As := []) (rest := []) M hW hS (c_X5_thrown l D Z N0 g2 ad) (cwV 0 hts gL_law_X5_thrown rfl rfl rfl (by decide +kernel) ⟨(Nat.le_of_ble_eq_true rfl), (Nat.le_of_ble_eq_true rfl)⟩) (r_recv M.2 hW 20 0 (lvM _) rfl rfl) rfl hl.1 rfl (Nat.le_of_ble_eq_true rfl) dL_law_1496 ⟨(show ((cells + 1) + 0) + 0 ≤ 603072 by omega), (show ((slots + 6) + 0) + 0 ≤ 7219305 by omega)⟩) hS (fun r3 g3 H locs hp hW hS => ?_)
  obtain ⟨-, rfl, rfl⟩ := hp
  refine lv_iload hx hb dL_law_1499 (lv_at hl 1 rfl) ?_
  refine lv_icmp_eq (tgt := 1506) hx hb dL_law_1501 (by decide) (fun _ => ?_) (fun h9 => absurd (congrArg nI h20) h9)
  refine lv_iload hx hb dL_law_1506 (lv_at hl 1 rfl) ?_
  refine n_if_ne (tgt := 1523) hx hb (by omega) dL_law_1508 (by decide) (fun hz => ?_) (fun hz => ?_)
  · refine lv_goto (tgt := 1797) hx hb dL_law_1523 (by decide) ?_
    refine W.widen (k := cells + 4) (n := slots + 40) (by omega) (by omega) ?_
    exact next g2 ad _ _ _ hR2 hIv2 hK2 hW hS (lv_sub hl [2, 3, 4, 5, 6, 7] rfl)
  · refine lv_aload_n hx hb dL_law_1511 rfl (lv_at hl 4 rfl) ?_
    refine lv_iconst (v := nI 0) hx hb dL_law_1512 (by decide) ?_
    refine r_lld M hW dL_law_1513 ?_
    refine lv_iload hx hb dL_law_1514 (lv_at hl 0 rfl) ?_
    refine lv_i2l hx hb dL_law_1516 (hv hz).symm ?_
    refine W.lcmp hx hb dL_law_1517 ?_
    refine W.eq (g2 := F0 m 1518 ls [.int (nI 0)]) (congrArg (fun z => F0 m 1518 ls [.int z]) (lcz _)) ?_
    refine n_if_eq (tgt := 1523) hx hb (by decide) dL_law_1518 (by decide) (fun _ => ?_) (fun h9 => absurd rfl h9)
    refine lv_goto (tgt := 1797) hx hb dL_law_1523 (by decide) ?_
    refine W.widen (k := cells + 4) (n := slots + 40) (by omega) (by omega) ?_
    exact next g2 ad _ _ _ hR2 hIv2 hK2 hW hS (lv_sub hl [2, 3, 4, 5, 6, 7] rfl)

set_option maxHeartbeats 4000000 in
set_option maxRecDepth 100000 in
theorem lc_setAgreed {p : Program} {l : Launch} {e : Env} {s : State} {m : MethodId} {below : List Frame} {meth : Method} {c : Code} (hfl : l.stackTraces = false) {b L : Nat} {xs : Nat → Int32} {D : va_G} {Z : Nat → Nat} {N0 : Nat} {Q : State → Prop} (M : Mx p m c cL_law 9 s #[Value.ref b] wsL_law RL D Z N0) (hX : va_X b L xs s s.heap) (hbl : b < s.heap.size) (hbA : ¬ AA N0 b) (hL : L ≤ 2560) {k : Nat} (hk : 5 * k + 5 ≤ L) {g : T3} {ad : T2} {H : Heap} {locs : List Loc} {ls : Array Slot} {cells slots : Nat} (hc9 : cells + 4 ≤ 603072) (hs9 : slots + 40 ≤ 7219305) (hR : Rel g) (hIv : Iv g) (hK : Kv g) (hW : Wd D Z N0 g ad H) (hS : va_S (AA N0) s.heap H locs) (hl : lv_has ls 9 (lvL b ad k)) (next : LN p l e s m b below meth c D Z N0 Q k cells slots) : W p l e room_1 s m #[Value.ref b] below meth c H locs cells slots Q (F0 m 1526 ls []) := by
  have hx := M.1.1
  have hb := M.1.2.1
  have hts := M.1.2.2.2.2
  have hO := hW.2.2.1
  have hl : lv_has ls 9 [(5, .int (nI (5 * k))), (4, .ref (ad 41 0)), (3, .ref (ad 40 0)), (2, .ref (ad 20 0)), (1, .ref (ad 0 0)), (0, .ref b)] := hl
  refine lv_aload_n hx hb dL_law_1526 rfl (lv_at hl 4 rfl) ?_
  refine lv_aload_n hx hb dL_law_1527 rfl (lv_at hl 5 rfl) ?_
  refine lv_iload hx hb dL_law_1528 (lv_at hl 0 rfl) ?_
  refine lv_iconst (v := nI 1) hx hb dL_law_1530 (by decide) ?_
  refine n_iadd hx hb dL_law_1531 ?_
  refine r_sld M hX hbl hbA hS (by omega) (by omega) dL_law_1532 ?_
  refine lv_aload_n hx hb dL_law_1533 rfl (lv_at hl 5 rfl) ?_
  refine lv_iload hx hb dL_law_1534 (lv_at hl 0 rfl) ?_
  refine lv_iconst (v := nI 2) hx hb dL_law_1536 (by decide) ?_
  refine n_iadd hx hb dL_law_1537 ?_
  refine r_sld M hX hbl hbA hS (by omega) (by omega) dL_law_1538 ?_
  refine k_ite (P := xs (5 * k + 2) = 0) (a := 0) (b := 1) (pcj := 1547) (rest := [.int (xs (5 * k + 1)), .ref (ad 0 0)]) (fun j1 j2 => ?_) ?_
  · refine lv_if_eq (tgt := 1546) hx hb dL_law_1539 (by decide) (fun c9 => ?_) (fun c9 => ?_)
    · refine lv_iconst (v := nI 0) hx hb dL_law_1546 (by decide) ?_
      exact j1 c9
    · refine lv_iconst (v := nI 1) hx hb dL_law_1542 (by decide) ?_
      refine lv_goto (tgt := 1547) hx hb dL_law_1543 (by decide) ?_
      exact j2 c9
  have hb1 : (if xs (5 * k + 2) = 0 then 0 else 1) ≤ 1 := by split <;> decide
  refine lv_aload_n hx hb dL_law_1547 rfl (lv_at hl 2 rfl) ?_
  refine k_ci (vx_runSW (As := [.ref (ad 0 0), .int (xs (5 * k + 1)), .int (nI (if xs (5 * k + 2) = 0 then 0 else 1)), .ref (ad 40 0)]) (rest := []) M.1 (c_L_setAgreed l hfl D Z N0 g ad (xs (5 * k + 1)) (if xs (5 * k + 2) = 0 then 0 else 1) hb1) (vx_cwSW 4 hts gL_law_L_setAgreed rfl rfl rfl (by decide +kernel) ⟨(Nat.le_of_ble_eq_true rfl), (Nat.le_of_ble_eq_true rfl)⟩) (k_pS M hW hS) rfl rfl hl.1 rfl (lv_room (Nat.le_of_ble_eq_true rfl)) dL_law_1548 ⟨(show cells + 1 ≤ 603072 by omega), (show slots + 6 ≤ 7219305 by omega)⟩) hS (fun r1 g1 H locs hp hW hS => ?_)
  obtain ⟨hf1, h1⟩ := hp
  refine lv_istore (lv' := [(6, .int (r1)), (5, .int (nI (5 * k))), (4, .ref (ad 41 0)), (3, .ref (ad 40 0)), (2, .ref (ad 20 0)), (1, .ref (ad 0 0)), (0, .ref b)]) hx hb dL_law_1551 hl (by decide) rfl (fun ls hl => ?_)
  refine lv_aload_n hx hb dL_law_1553 rfl (lv_at hl 4 rfl) ?_
  refine lv_aload_n hx hb dL_law_1554 rfl (lv_at hl 6 rfl) ?_
  refine lv_iload hx hb dL_law_1555 (lv_at hl 1 rfl) ?_
  refine lv_iconst (v := nI 1) hx hb dL_law_1557 (by decide) ?_
  refine n_iadd hx hb dL_law_1558 ?_
  refine r_sld M hX hbl hbA hS (by omega) (by omega) dL_law_1559 ?_
  refine lv_aload_n hx hb dL_law_1560 rfl (lv_at hl 6 rfl) ?_
  refine lv_iload hx hb dL_law_1561 (lv_at hl 1 rfl) ?_
  refine lv_iconst (v := nI 2) hx hb dL_law_1563 (by decide) ?_
  refine n_iadd hx hb dL_law_1564 ?_
  refine r_sld M hX hbl hbA hS (by omega) (by omega) dL_law_1565 ?_
  refine k_ite (P := xs (5 * k + 2) = 0) (a := 0) (b := 1) (pcj := 1574) (rest := [.int (xs (5 * k + 1)), .ref (ad 20 0)]) (fun j1 j2 => ?_) ?_
  · refine lv_if_eq (tgt := 1573) hx hb dL_law_1566 (by decide) (fun c9 => ?_) (fun c9 => ?_)
    · refine lv_iconst (v := nI 0) hx hb dL_law_1573 (by decide) ?_
      exact j1 c9
    · refine lv_iconst (v := nI 1) hx hb dL_law_1569 (by decide) ?_
      refine lv_goto (tgt := 1574) hx hb dL_law_1570 (by decide) ?_
      exact j2 c9
  refine k_ci (k_rV (As := [.int (xs (5 * k + 1)), .int (nI (if xs (5 * k + 2) = 0 then 0 else 1))]) (rest := []) M hW hS (c_X5_setAgreed l D Z N0 g1 ad (xs (5 * k + 1)) (if xs (5 * k + 2) = 0 then 0 else 1) hb1) (cwV 2 hts gL_law_X5_setAgreed rfl rfl rfl (by decide +kernel) ⟨(Nat.le_of_ble_eq_true rfl), (Nat.le_of_ble_eq_true rfl)⟩) (r_recv M.2 hW 20 0 (lvM _) rfl rfl) rfl hl.1 rfl (Nat.le_of_ble_eq_true rfl) dL_law_1574 ⟨(show (cells + 1) + 0 ≤ 603072 by omega), (show (slots + 6) + 0 ≤ 7219305 by omega)⟩) hS (fun r2 g2 H locs hp hW hS => ?_)
  obtain ⟨hf2, h2⟩ := hp
  have st9 := st_setAgreed (y := 0) (z := 0) (u := 0) hR hK hO hb1 h1 h2
  obtain ⟨kk, hk3, rfl, h20, hv, hR2, hK2⟩ := st9
  have hIv2 : Iv g2 := hIv.fr (hf1.trans hf2)
  refine lv_istore (lv' := [(7, .int (r2)), (6, .int (nI (kk))), (5, .int (nI (5 * k))), (4, .ref (ad 41 0)), (3, .ref (ad 40 0)), (2, .ref (ad 20 0)), (1, .ref (ad 0 0)), (0, .ref b)]) hx hb dL_law_1577 hl (by decide) rfl (fun ls hl => ?_)
  refine lv_aload_n hx hb dL_law_1579 rfl (lv_at hl 5 rfl) ?_
  refine k_ci (k_rV (As := []) (rest := []) M hW hS (c_X5_thrown l D Z N0 g2 ad) (cwV 0 hts gL_law_X5_thrown rfl rfl rfl (by decide +kernel) ⟨(Nat.le_of_ble_eq_true rfl), (Nat.le_of_ble_eq_true rfl)⟩) (r_recv M.2 hW 20 0 (lvM _) rfl rfl) rfl hl.1 rfl (Nat.le_of_ble_eq_true rfl) dL_law_1580 ⟨(show ((cells + 1) + 0) + 0 ≤ 603072 by omega), (show ((slots + 6) + 0) + 0 ≤ 7219305 by omega)⟩) hS (fun r3 g3 H locs hp hW hS => ?_)
  obtain ⟨-, rfl, rfl⟩ := hp
  refine lv_iload hx hb dL_law_1583 (lv_at hl 1 rfl) ?_
  refine lv_icmp_eq (tgt := 1590) hx hb dL_law_1585 (by decide) (fun _ => ?_) (fun h9 => absurd (congrArg nI h20) h9)
  refine lv_iload hx hb dL_law_1590 (lv_at hl 1 rfl) ?_
  refine n_if_ne (tgt := 1607) hx hb (by omega) dL_law_1592 (by decide) (fun hz => ?_) (fun hz => ?_)
  · refine lv_goto (tgt := 1797) hx hb dL_law_1607 (by decide) ?_
    refine W.widen (k := cells + 4) (n := slots + 40) (by omega) (by omega) ?_
    exact next g2 ad _ _ _ hR2 hIv2 hK2 hW hS (lv_sub hl [2, 3, 4, 5, 6, 7] rfl)
  · refine lv_aload_n hx hb dL_law_1595 rfl (lv_at hl 4 rfl) ?_
    refine lv_iconst (v := nI 0) hx hb dL_law_1596 (by decide) ?_
    refine r_lld M hW dL_law_1597 ?_
    refine lv_iload hx hb dL_law_1598 (lv_at hl 0 rfl) ?_
    refine lv_i2l hx hb dL_law_1600 (hv hz).symm ?_
    refine W.lcmp hx hb dL_law_1601 ?_
    refine W.eq (g2 := F0 m 1602 ls [.int (nI 0)]) (congrArg (fun z => F0 m 1602 ls [.int z]) (lcz _)) ?_
    refine n_if_eq (tgt := 1607) hx hb (by decide) dL_law_1602 (by decide) (fun _ => ?_) (fun h9 => absurd rfl h9)
    refine lv_goto (tgt := 1797) hx hb dL_law_1607 (by decide) ?_
    refine W.widen (k := cells + 4) (n := slots + 40) (by omega) (by omega) ?_
    exact next g2 ad _ _ _ hR2 hIv2 hK2 hW hS (lv_sub hl [2, 3, 4, 5, 6, 7] rfl)

set_option maxHeartbeats 4000000 in
set_option maxRecDepth 100000 in
theorem lc_recover {p : Program} {l : Launch} {e : Env} {s : State} {m : MethodId} {below : List Frame} {meth : Method} {c : Code} (hfl : l.stackTraces = false) {b L : Nat} {xs : Nat → Int32} {D : va_G} {Z : Nat → Nat} {N0 : Nat} {Q : State → Prop} (M : Mx p m c cL_law 9 s #[Value.ref b] wsL_law RL D Z N0) (hX : va_X b L xs s s.heap) (hbl : b < s.heap.size) (hbA : ¬ AA N0 b) (hL : L ≤ 2560) {k : Nat} (hk : 5 * k + 5 ≤ L) {g : T3} {ad : T2} {H : Heap} {locs : List Loc} {ls : Array Slot} {cells slots : Nat} (hc9 : cells + 4 ≤ 603072) (hs9 : slots + 40 ≤ 7219305) (hR : Rel g) (hIv : Iv g) (hK : Kv g) (hW : Wd D Z N0 g ad H) (hS : va_S (AA N0) s.heap H locs) (hl : lv_has ls 9 (lvL b ad k)) (next : LN p l e s m b below meth c D Z N0 Q k cells slots) : W p l e room_1 s m #[Value.ref b] below meth c H locs cells slots Q (F0 m 1610 ls []) := by
  have hx := M.1.1
  have hb := M.1.2.1
  have hts := M.1.2.2.2.2
  have hO := hW.2.2.1
  have hl : lv_has ls 9 [(5, .int (nI (5 * k))), (4, .ref (ad 41 0)), (3, .ref (ad 40 0)), (2, .ref (ad 20 0)), (1, .ref (ad 0 0)), (0, .ref b)] := hl
  refine lv_aload_n hx hb dL_law_1610 rfl (lv_at hl 4 rfl) ?_
  refine lv_aload_n hx hb dL_law_1611 rfl (lv_at hl 5 rfl) ?_
  refine lv_iload hx hb dL_law_1612 (lv_at hl 0 rfl) ?_
  refine lv_iconst (v := nI 1) hx hb dL_law_1614 (by decide) ?_
  refine n_iadd hx hb dL_law_1615 ?_
  refine r_sld M hX hbl hbA hS (by omega) (by omega) dL_law_1616 ?_
  refine lv_aload_n hx hb dL_law_1617 rfl (lv_at hl 2 rfl) ?_
  refine k_ci (vx_runSW (As := [.ref (ad 0 0), .int (xs (5 * k + 1)), .ref (ad 40 0)]) (rest := []) M.1 (c_L_recover l hfl D Z N0 g ad (xs (5 * k + 1))) (vx_cwSW 3 hts gL_law_L_recover rfl rfl rfl (by decide +kernel) ⟨(Nat.le_of_ble_eq_true rfl), (Nat.le_of_ble_eq_true rfl)⟩) (k_pS M hW hS) rfl rfl hl.1 rfl (lv_room (Nat.le_of_ble_eq_true rfl)) dL_law_1618 ⟨(show cells + 2 ≤ 603072 by omega), (show slots + 12 ≤ 7219305 by omega)⟩) hS (fun r1 g1 H locs hp hW hS => ?_)
  obtain ⟨hf1, h1⟩ := hp
  refine lv_istore (lv' := [(6, .int (r1)), (5, .int (nI (5 * k))), (4, .ref (ad 41 0)), (3, .ref (ad 40 0)), (2, .ref (ad 20 0)), (1, .ref (ad 0 0)), (0, .ref b)]) hx hb dL_law_1621 hl (by decide) rfl (fun ls hl => ?_)
  refine lv_aload_n hx hb dL_law_1623 rfl (lv_at hl 4 rfl) ?_
  refine lv_aload_n hx hb dL_law_1624 rfl (lv_at hl 6 rfl) ?_
  refine lv_iload hx hb dL_law_1625 (lv_at hl 1 rfl) ?_
  refine lv_iconst (v := nI 1) hx hb dL_law_1627 (by decide) ?_
  refine n_iadd hx hb dL_law_1628 ?_
  refine r_sld M hX hbl hbA hS (by omega) (by omega) dL_law_1629 ?_
  refine k_ci (k_rV (As := [.int (xs (5 * k + 1))]) (rest := []) M hW hS (c_X5_recover l D Z N0 g1 ad (xs (5 * k + 1))) (cwV 1 hts gL_law_X5_recover rfl rfl rfl (by decide +kernel) ⟨(Nat.le_of_ble_eq_true rfl), (Nat.le_of_ble_eq_true rfl)⟩) (r_recv M.2 hW 20 0 (lvM _) rfl rfl) rfl hl.1 rfl (Nat.le_of_ble_eq_true rfl) dL_law_1630 ⟨(show (cells + 2) + 0 ≤ 603072 by omega), (show (slots + 12) + 0 ≤ 7219305 by omega)⟩) hS (fun r2 g2 H locs hp hW hS => ?_)
  obtain ⟨hf2, h2⟩ := hp
  have st9 := st_recover (y := 0) (z := 0) (u := 0) (b := 0) hR hK hO h1 h2
  obtain ⟨kk, hk3, rfl, h20, hv, hR2, hK2⟩ := st9
  have hIv2 : Iv g2 := hIv.fr (hf1.trans hf2)
  refine lv_istore (lv' := [(7, .int (r2)), (6, .int (nI (kk))), (5, .int (nI (5 * k))), (4, .ref (ad 41 0)), (3, .ref (ad 40 0)), (2, .ref (ad 20 0)), (1, .ref (ad 0 0)), (0, .ref b)]) hx hb dL_law_1633 hl (by decide) rfl (fun ls hl => ?_)
  refine lv_aload_n hx hb dL_law_1635 rfl (lv_at hl 5 rfl) ?_
  refine k_ci (k_rV (As := []) (rest := []) M hW hS (c_X5_thrown l D Z N0 g2 ad) (cwV 0 hts gL_law_X5_thrown rfl rfl rfl (by decide +kernel) ⟨(Nat.le_of_ble_eq_true rfl), (Nat.le_of_ble_eq_true rfl)⟩) (r_recv M.2 hW 20 0 (lvM _) rfl rfl) rfl hl.1 rfl (Nat.le_of_ble_eq_true rfl) dL_law_1636 ⟨(show ((cells + 2) + 0) + 0 ≤ 603072 by omega), (show ((slots + 12) + 0) + 0 ≤ 7219305 by omega)⟩) hS (fun r3 g3 H locs hp hW hS => ?_)
  obtain ⟨-, rfl, rfl⟩ := hp
  refine lv_iload hx hb dL_law_1639 (lv_at hl 1 rfl) ?_
  refine lv_icmp_eq (tgt := 1646) hx hb dL_law_1641 (by decide) (fun _ => ?_) (fun h9 => absurd (congrArg nI h20) h9)
  refine lv_iload hx hb dL_law_1646 (lv_at hl 1 rfl) ?_
  refine n_if_ne (tgt := 1663) hx hb (by omega) dL_law_1648 (by decide) (fun hz => ?_) (fun hz => ?_)
  · refine lv_goto (tgt := 1797) hx hb dL_law_1663 (by decide) ?_
    refine W.widen (k := cells + 4) (n := slots + 40) (by omega) (by omega) ?_
    exact next g2 ad _ _ _ hR2 hIv2 hK2 hW hS (lv_sub hl [2, 3, 4, 5, 6, 7] rfl)
  · refine lv_aload_n hx hb dL_law_1651 rfl (lv_at hl 4 rfl) ?_
    refine lv_iconst (v := nI 0) hx hb dL_law_1652 (by decide) ?_
    refine r_lld M hW dL_law_1653 ?_
    refine lv_iload hx hb dL_law_1654 (lv_at hl 0 rfl) ?_
    refine lv_i2l hx hb dL_law_1656 (hv hz).symm ?_
    refine W.lcmp hx hb dL_law_1657 ?_
    refine W.eq (g2 := F0 m 1658 ls [.int (nI 0)]) (congrArg (fun z => F0 m 1658 ls [.int z]) (lcz _)) ?_
    refine n_if_eq (tgt := 1663) hx hb (by decide) dL_law_1658 (by decide) (fun _ => ?_) (fun h9 => absurd rfl h9)
    refine lv_goto (tgt := 1797) hx hb dL_law_1663 (by decide) ?_
    refine W.widen (k := cells + 4) (n := slots + 40) (by omega) (by omega) ?_
    exact next g2 ad _ _ _ hR2 hIv2 hK2 hW hS (lv_sub hl [2, 3, 4, 5, 6, 7] rfl)

set_option maxHeartbeats 4000000 in
set_option maxRecDepth 100000 in
theorem lc_openShare {p : Program} {l : Launch} {e : Env} {s : State} {m : MethodId} {below : List Frame} {meth : Method} {c : Code} (hfl : l.stackTraces = false) {b L : Nat} {xs : Nat → Int32} {D : va_G} {Z : Nat → Nat} {N0 : Nat} {Q : State → Prop} (M : Mx p m c cL_law 9 s #[Value.ref b] wsL_law RL D Z N0) (hX : va_X b L xs s s.heap) (hbl : b < s.heap.size) (hbA : ¬ AA N0 b) (hL : L ≤ 2560) {k : Nat} (hk : 5 * k + 5 ≤ L) {g : T3} {ad : T2} {H : Heap} {locs : List Loc} {ls : Array Slot} {cells slots : Nat} (hc9 : cells + 4 ≤ 603072) (hs9 : slots + 40 ≤ 7219305) (hR : Rel g) (hIv : Iv g) (hK : Kv g) (hW : Wd D Z N0 g ad H) (hS : va_S (AA N0) s.heap H locs) (hl : lv_has ls 9 (lvL b ad k)) (next : LN p l e s m b below meth c D Z N0 Q k cells slots) : W p l e room_1 s m #[Value.ref b] below meth c H locs cells slots Q (F0 m 1666 ls []) := by
  have hx := M.1.1
  have hb := M.1.2.1
  have hts := M.1.2.2.2.2
  have hO := hW.2.2.1
  have hl : lv_has ls 9 [(5, .int (nI (5 * k))), (4, .ref (ad 41 0)), (3, .ref (ad 40 0)), (2, .ref (ad 20 0)), (1, .ref (ad 0 0)), (0, .ref b)] := hl
  refine lv_aload_n hx hb dL_law_1666 rfl (lv_at hl 4 rfl) ?_
  refine lv_aload hx hb dL_law_1667 (lv_at hl 1 rfl) ?_
  refine k_ci (vx_runSW (As := [.ref (ad 0 0), .ref (ad 41 0)]) (rest := []) M.1 (c_L_openShare l hfl D Z N0 g ad) (vx_cwSW 2 hts gL_law_L_openShare rfl rfl rfl (by decide +kernel) ⟨(Nat.le_of_ble_eq_true rfl), (Nat.le_of_ble_eq_true rfl)⟩) (k_pS M hW hS) rfl rfl hl.1 rfl (lv_room (Nat.le_of_ble_eq_true rfl)) dL_law_1669 ⟨(show cells + 1 ≤ 603072 by omega), (show slots + 6 ≤ 7219305 by omega)⟩) hS (fun r1 g1 H locs hp hW hS => ?_)
  obtain ⟨hf1, h1⟩ := hp
  refine lv_istore (lv' := [(6, .int (r1)), (5, .int (nI (5 * k))), (4, .ref (ad 41 0)), (3, .ref (ad 40 0)), (2, .ref (ad 20 0)), (1, .ref (ad 0 0)), (0, .ref b)]) hx hb dL_law_1672 hl (by decide) rfl (fun ls hl => ?_)
  refine lv_aload_n hx hb dL_law_1674 rfl (lv_at hl 4 rfl) ?_
  refine k_cf (k_rV (As := []) (rest := []) M hW hS (c_X5_openShare l D Z N0 g1 ad) (cwV 0 hts gL_law_X5_openShare rfl rfl rfl (by decide +kernel) ⟨(Nat.le_of_ble_eq_true rfl), (Nat.le_of_ble_eq_true rfl)⟩) (r_recv M.2 hW 20 0 (lvM _) rfl rfl) rfl hl.1 rfl (Nat.le_of_ble_eq_true rfl) dL_law_1675 ⟨(show (cells + 1) + 0 ≤ 603072 by omega), (show (slots + 6) + 0 ≤ 7219305 by omega)⟩) hS (fun r2 g2 H locs hp hW hS => ?_)
  obtain ⟨hf2, h2⟩ := hp
  have st9 := st_openShare (x := 0) (y := 0) (z := 0) (u := 0) (b := 0) hR hK hO h1 h2
  obtain ⟨kk, hk3, rfl, h20, hv, hR2, hK2⟩ := st9
  have hIv2 : Iv g2 := hIv.fr (hf1.trans hf2)
  refine lv_fstore (lv' := [(7, .float (r2)), (6, .int (nI (kk))), (5, .int (nI (5 * k))), (4, .ref (ad 41 0)), (3, .ref (ad 40 0)), (2, .ref (ad 20 0)), (1, .ref (ad 0 0)), (0, .ref b)]) hx hb dL_law_1678 hl (by decide) rfl (fun ls hl => ?_)
  refine lv_aload_n hx hb dL_law_1680 rfl (lv_at hl 5 rfl) ?_
  refine k_ci (k_rV (As := []) (rest := []) M hW hS (c_X5_thrown l D Z N0 g2 ad) (cwV 0 hts gL_law_X5_thrown rfl rfl rfl (by decide +kernel) ⟨(Nat.le_of_ble_eq_true rfl), (Nat.le_of_ble_eq_true rfl)⟩) (r_recv M.2 hW 20 0 (lvM _) rfl rfl) rfl hl.1 rfl (Nat.le_of_ble_eq_true rfl) dL_law_1681 ⟨(show ((cells + 1) + 0) + 0 ≤ 603072 by omega), (show ((slots + 6) + 0) + 0 ≤ 7219305 by omega)⟩) hS (fun r3 g3 H locs hp hW hS => ?_)
  obtain ⟨-, rfl, rfl⟩ := hp
  refine lv_iload hx hb dL_law_1684 (lv_at hl 1 rfl) ?_
  refine lv_icmp_eq (tgt := 1691) hx hb dL_law_1686 (by decide) (fun _ => ?_) (fun h9 => absurd (congrArg nI h20) h9)
  refine lv_iload hx hb dL_law_1691 (lv_at hl 1 rfl) ?_
  refine n_if_ne (tgt := 1729) hx hb (by omega) dL_law_1693 (by decide) (fun hz => ?_) (fun hz => ?_)
  · refine lv_goto (tgt := 1797) hx hb dL_law_1729 (by decide) ?_
    refine W.widen (k := cells + 4) (n := slots + 40) (by omega) (by omega) ?_
    exact next g2 ad _ _ _ hR2 hIv2 hK2 hW hS (lv_sub hl [2, 3, 4, 5, 6, 7] rfl)
  · obtain ⟨hv9, a9, b9, ha9, hb9, hb0, rfl⟩ := hv hz
    refine lv_aload hx hb dL_law_1696 (lv_at hl 3 rfl) ?_
    refine lv_iconst (v := nI 0) hx hb dL_law_1698 (by decide) ?_
    refine r_dld M hW dL_law_1699 ?_
    refine lv_fload hx hb dL_law_1700 (lv_at hl 0 rfl) ?_
    refine lv_f2d hx hb dL_law_1702 (ne_fd _ ha9 _ hb9 hb0) ?_
    refine lv_dcmp hx hb dL_law_1703 ?_
    refine W.eq (g2 := F0 m 1704 ls [.int (nI 0)]) (congrArg (fun z => F0 m 1704 ls [.int z]) (by rw [hv9]; exact dz_f _ ha9 _ hb9 hb0)) ?_
    refine n_if_eq (tgt := 1729) hx hb (by decide) dL_law_1704 (by decide) (fun _ => ?_) (fun h9 => absurd rfl h9)
    refine lv_goto (tgt := 1797) hx hb dL_law_1729 (by decide) ?_
    refine W.widen (k := cells + 4) (n := slots + 40) (by omega) (by omega) ?_
    exact next g2 ad _ _ _ hR2 hIv2 hK2 hW hS (lv_sub hl [2, 3, 4, 5, 6, 7] rfl)

set_option maxHeartbeats 4000000 in
set_option maxRecDepth 100000 in
theorem lc_meanVersion {p : Program} {l : Launch} {e : Env} {s : State} {m : MethodId} {below : List Frame} {meth : Method} {c : Code} (hfl : l.stackTraces = false) {b L : Nat} {xs : Nat → Int32} {D : va_G} {Z : Nat → Nat} {N0 : Nat} {Q : State → Prop} (M : Mx p m c cL_law 9 s #[Value.ref b] wsL_law RL D Z N0) (hX : va_X b L xs s s.heap) (hbl : b < s.heap.size) (hbA : ¬ AA N0 b) (hL : L ≤ 2560) {k : Nat} (hk : 5 * k + 5 ≤ L) {g : T3} {ad : T2} {H : Heap} {locs : List Loc} {ls : Array Slot} {cells slots : Nat} (hc9 : cells + 4 ≤ 603072) (hs9 : slots + 40 ≤ 7219305) (hR : Rel g) (hIv : Iv g) (hK : Kv g) (hW : Wd D Z N0 g ad H) (hS : va_S (AA N0) s.heap H locs) (hl : lv_has ls 9 (lvL b ad k)) (next : LN p l e s m b below meth c D Z N0 Q k cells slots) : W p l e room_1 s m #[Value.ref b] below meth c H locs cells slots Q (F0 m 1732 ls []) := by
  have hx := M.1.1
  have hb := M.1.2.1
  have hts := M.1.2.2.2.2
  have hO := hW.2.2.1
  have hl : lv_has ls 9 [(5, .int (nI (5 * k))), (4, .ref (ad 41 0)), (3, .ref (ad 40 0)), (2, .ref (ad 20 0)), (1, .ref (ad 0 0)), (0, .ref b)] := hl
  refine lv_aload_n hx hb dL_law_1732 rfl (lv_at hl 4 rfl) ?_
  refine lv_aload hx hb dL_law_1733 (lv_at hl 1 rfl) ?_
  refine k_ci (vx_runSW (As := [.ref (ad 0 0), .ref (ad 41 0)]) (rest := []) M.1 (c_L_meanVersion l hfl D Z N0 g ad) (vx_cwSW 2 hts gL_law_L_meanVersion rfl rfl rfl (by decide +kernel) ⟨(Nat.le_of_ble_eq_true rfl), (Nat.le_of_ble_eq_true rfl)⟩) (k_pS M hW hS) rfl rfl hl.1 rfl (lv_room (Nat.le_of_ble_eq_true rfl)) dL_law_1735 ⟨(show cells + 1 ≤ 603072 by omega), (show slots + 6 ≤ 7219305 by omega)⟩) hS (fun r1 g1 H locs hp hW hS => ?_)
  obtain ⟨hf1, h1⟩ := hp
  refine lv_istore (lv' := [(6, .int (r1)), (5, .int (nI (5 * k))), (4, .ref (ad 41 0)), (3, .ref (ad 40 0)), (2, .ref (ad 20 0)), (1, .ref (ad 0 0)), (0, .ref b)]) hx hb dL_law_1738 hl (by decide) rfl (fun ls hl => ?_)
  refine lv_aload_n hx hb dL_law_1740 rfl (lv_at hl 4 rfl) ?_
  refine k_cd (k_rV (As := []) (rest := []) M hW hS (c_X5_meanVersion l D Z N0 g1 ad) (cwV 0 hts gL_law_X5_meanVersion rfl rfl rfl (by decide +kernel) ⟨(Nat.le_of_ble_eq_true rfl), (Nat.le_of_ble_eq_true rfl)⟩) (r_recv M.2 hW 20 0 (lvM _) rfl rfl) rfl hl.1 rfl (Nat.le_of_ble_eq_true rfl) dL_law_1741 ⟨(show (cells + 1) + 0 ≤ 603072 by omega), (show (slots + 6) + 0 ≤ 7219305 by omega)⟩) hS (fun r2 g2 H locs hp hW hS => ?_)
  obtain ⟨hf2, h2⟩ := hp
  have st9 := st_meanVersion (x := 0) (y := 0) (z := 0) (u := 0) (b := 0) hR hK hO h1 h2
  obtain ⟨kk, hk3, rfl, h20, hv, hR2, hK2⟩ := st9
  have hIv2 : Iv g2 := hIv.fr (hf1.trans hf2)
  refine lv_dstore (lv' := [(7, .double (r2)), (6, .int (nI (kk))), (5, .int (nI (5 * k))), (4, .ref (ad 41 0)), (3, .ref (ad 40 0)), (2, .ref (ad 20 0)), (1, .ref (ad 0 0)), (0, .ref b)]) hx hb dL_law_1744 hl (by decide) rfl (fun ls hl => ?_)
  refine lv_aload_n hx hb dL_law_1746 rfl (lv_at hl 5 rfl) ?_
  refine k_ci (k_rV (As := []) (rest := []) M hW hS (c_X5_thrown l D Z N0 g2 ad) (cwV 0 hts gL_law_X5_thrown rfl rfl rfl (by decide +kernel) ⟨(Nat.le_of_ble_eq_true rfl), (Nat.le_of_ble_eq_true rfl)⟩) (r_recv M.2 hW 20 0 (lvM _) rfl rfl) rfl hl.1 rfl (Nat.le_of_ble_eq_true rfl) dL_law_1747 ⟨(show ((cells + 1) + 0) + 0 ≤ 603072 by omega), (show ((slots + 6) + 0) + 0 ≤ 7219305 by omega)⟩) hS (fun r3 g3 H locs hp hW hS => ?_)
  obtain ⟨-, rfl, rfl⟩ := hp
  refine lv_iload hx hb dL_law_1750 (lv_at hl 1 rfl) ?_
  refine lv_icmp_eq (tgt := 1757) hx hb dL_law_1752 (by decide) (fun _ => ?_) (fun h9 => absurd (congrArg nI h20) h9)
  refine lv_iload hx hb dL_law_1757 (lv_at hl 1 rfl) ?_
  refine n_if_ne (tgt := 1794) hx hb (by omega) dL_law_1759 (by decide) (fun hz => ?_) (fun hz => ?_)
  · refine lv_goto (tgt := 1797) hx hb dL_law_1794 (by decide) ?_
    refine W.widen (k := cells + 4) (n := slots + 40) (by omega) (by omega) ?_
    exact next g2 ad _ _ _ hR2 hIv2 hK2 hW hS (lv_sub hl [2, 3, 4, 5, 6, 7] rfl)
  · obtain ⟨hv9, a9, b9, ha9, hb9, hb0, rfl⟩ := hv hz
    refine lv_aload hx hb dL_law_1762 (lv_at hl 3 rfl) ?_
    refine lv_iconst (v := nI 0) hx hb dL_law_1764 (by decide) ?_
    refine r_dld M hW dL_law_1765 ?_
    refine lv_dload hx hb dL_law_1766 (lv_at hl 0 rfl) ?_
    refine lv_dcmp hx hb dL_law_1768 ?_
    refine W.eq (g2 := F0 m 1769 ls [.int (nI 0)]) (congrArg (fun z => F0 m 1769 ls [.int z]) (by rw [hv9]; exact dz_d _ hb9 hb0 _ ha9)) ?_
    refine n_if_eq (tgt := 1794) hx hb (by decide) dL_law_1769 (by decide) (fun _ => ?_) (fun h9 => absurd rfl h9)
    refine lv_goto (tgt := 1797) hx hb dL_law_1794 (by decide) ?_
    refine W.widen (k := cells + 4) (n := slots + 40) (by omega) (by omega) ?_
    exact next g2 ad _ _ _ hR2 hIv2 hK2 hW hS (lv_sub hl [2, 3, 4, 5, 6, 7] rfl)
