/-! THE LAW'S CASES, 14 to 20. -/
set_option maxHeartbeats 4000000 in
set_option maxRecDepth 100000 in
theorem lc_register {p : Program} {l : Launch} {e : Env} {s : State} {m : MethodId} {below : List Frame} {meth : Method} {c : Code} (hfl : l.stackTraces = false) {b L : Nat} {xs : Nat → Int32} {D : va_G} {Z : Nat → Nat} {N0 : Nat} {Q : State → Prop} (M : Mx p m c cL_law 9 s #[Value.ref b] wsL_law RL D Z N0) (hX : va_X b L xs s s.heap) (hbl : b < s.heap.size) (hbA : ¬ AA N0 b) (hL : L ≤ 2560) {k : Nat} (hk : 5 * k + 5 ≤ L) {g : T3} {ad : T2} {H : Heap} {locs : List Loc} {ls : Array Slot} {cells slots : Nat} (hc9 : cells + 4 ≤ 603072) (hs9 : slots + 40 ≤ 7219305) (hR : Rel g) (hIv : Iv g) (hK : Kv g) (hW : Wd D Z N0 g ad H) (hS : va_S (AA N0) s.heap H locs) (hl : lv_has ls 9 (lvL b ad k)) (next : LN p l e s m b below meth c D Z N0 Q k cells slots) : W p l e room_1 s m #[Value.ref b] below meth c H locs cells slots Q (F0 m 983 ls []) := by
  have hx := M.1.1
  have hb := M.1.2.1
  have hts := M.1.2.2.2.2
  have hO := hW.2.2.1
  have hl : lv_has ls 9 [(5, .int (nI (5 * k))), (4, .ref (ad 41 0)), (3, .ref (ad 40 0)), (2, .ref (ad 20 0)), (1, .ref (ad 0 0)), (0, .ref b)] := hl
  refine lv_aload_n hx hb dL_law_983 rfl (lv_at hl 4 rfl) ?_
  refine lv_aload_n hx hb dL_law_984 rfl (lv_at hl 5 rfl) ?_
  refine lv_iload hx hb dL_law_985 (lv_at hl 0 rfl) ?_
  refine lv_iconst (v := nI 1) hx hb dL_law_987 (by decide) ?_
  refine n_iadd hx hb dL_law_988 ?_
  refine r_sld M hX hbl hbA hS (by omega) (by omega) dL_law_989 ?_
  refine lv_aload_n hx hb dL_law_990 rfl (lv_at hl 2 rfl) ?_
  refine k_ci (vx_runSW (As := [.ref (ad 0 0), .int (xs (5 * k + 1)), .ref (ad 40 0)]) (rest := []) M.1 (c_L_register l hfl D Z N0 g ad (xs (5 * k + 1))) (vx_cwSW 3 hts gL_law_L_register rfl rfl rfl (by decide +kernel) ⟨(Nat.le_of_ble_eq_true rfl), (Nat.le_of_ble_eq_true rfl)⟩) (k_pS M hW hS) rfl rfl hl.1 rfl (lv_room (Nat.le_of_ble_eq_true rfl)) dL_law_991 ⟨(show cells + 1 ≤ 603072 by omega), (show slots + 6 ≤ 7219305 by omega)⟩) hS (fun r1 g1 H locs hp hW hS => ?_)
  obtain ⟨hf1, h1⟩ := hp
  refine lv_istore (lv' := [(6, .int (r1)), (5, .int (nI (5 * k))), (4, .ref (ad 41 0)), (3, .ref (ad 40 0)), (2, .ref (ad 20 0)), (1, .ref (ad 0 0)), (0, .ref b)]) hx hb dL_law_994 hl (by decide) rfl (fun ls hl => ?_)
  refine lv_aload_n hx hb dL_law_996 rfl (lv_at hl 4 rfl) ?_
  refine lv_aload_n hx hb dL_law_997 rfl (lv_at hl 6 rfl) ?_
  refine lv_iload hx hb dL_law_998 (lv_at hl 1 rfl) ?_
  refine lv_iconst (v := nI 1) hx hb dL_law_1000 (by decide) ?_
  refine n_iadd hx hb dL_law_1001 ?_
  refine r_sld M hX hbl hbA hS (by omega) (by omega) dL_law_1002 ?_
  refine k_ci (k_rV (As := [.int (xs (5 * k + 1))]) (rest := []) M hW hS (c_X5_register l D Z N0 g1 ad (xs (5 * k + 1))) (cwV 1 hts gL_law_X5_register rfl rfl rfl (by decide +kernel) ⟨(Nat.le_of_ble_eq_true rfl), (Nat.le_of_ble_eq_true rfl)⟩) (r_recv M.2 hW 20 0 (lvM _) rfl rfl) rfl hl.1 rfl (Nat.le_of_ble_eq_true rfl) dL_law_1003 ⟨(show (cells + 1) + 0 ≤ 603072 by omega), (show (slots + 6) + 0 ≤ 7219305 by omega)⟩) hS (fun r2 g2 H locs hp hW hS => ?_)
  obtain ⟨hf2, h2⟩ := hp
  have st9 := st_register (y := 0) (z := 0) (u := 0) (b := 0) hR hK hO h1 h2
  obtain ⟨kk, hk3, rfl, h20, hv, hR2, hK2⟩ := st9
  have hIv2 : Iv g2 := hIv.fr (hf1.trans hf2)
  refine lv_istore (lv' := [(7, .int (r2)), (6, .int (nI (kk))), (5, .int (nI (5 * k))), (4, .ref (ad 41 0)), (3, .ref (ad 40 0)), (2, .ref (ad 20 0)), (1, .ref (ad 0 0)), (0, .ref b)]) hx hb dL_law_1006 hl (by decide) rfl (fun ls hl => ?_)
  refine lv_aload_n hx hb dL_law_1008 rfl (lv_at hl 5 rfl) ?_
  refine k_ci (k_rV (As := []) (rest := []) M hW hS (c_X5_thrown l D Z N0 g2 ad) (cwV 0 hts gL_law_X5_thrown rfl rfl rfl (by decide +kernel) ⟨(Nat.le_of_ble_eq_true rfl), (Nat.le_of_ble_eq_true rfl)⟩) (r_recv M.2 hW 20 0 (lvM _) rfl rfl) rfl hl.1 rfl (Nat.le_of_ble_eq_true rfl) dL_law_1009 ⟨(show ((cells + 1) + 0) + 0 ≤ 603072 by omega), (show ((slots + 6) + 0) + 0 ≤ 7219305 by omega)⟩) hS (fun r3 g3 H locs hp hW hS => ?_)
  obtain ⟨-, rfl, rfl⟩ := hp
  refine lv_iload hx hb dL_law_1012 (lv_at hl 1 rfl) ?_
  refine lv_icmp_eq (tgt := 1019) hx hb dL_law_1014 (by decide) (fun _ => ?_) (fun h9 => absurd (congrArg nI h20) h9)
  refine lv_iload hx hb dL_law_1019 (lv_at hl 1 rfl) ?_
  refine n_if_ne (tgt := 1036) hx hb (by omega) dL_law_1021 (by decide) (fun hz => ?_) (fun hz => ?_)
  · refine lv_goto (tgt := 1797) hx hb dL_law_1036 (by decide) ?_
    refine W.widen (k := cells + 4) (n := slots + 40) (by omega) (by omega) ?_
    exact next g2 ad _ _ _ hR2 hIv2 hK2 hW hS (lv_sub hl [2, 3, 4, 5, 6, 7] rfl)
  · refine lv_aload_n hx hb dL_law_1024 rfl (lv_at hl 4 rfl) ?_
    refine lv_iconst (v := nI 0) hx hb dL_law_1025 (by decide) ?_
    refine r_lld M hW dL_law_1026 ?_
    refine lv_iload hx hb dL_law_1027 (lv_at hl 0 rfl) ?_
    refine lv_i2l hx hb dL_law_1029 (hv hz).symm ?_
    refine W.lcmp hx hb dL_law_1030 ?_
    refine W.eq (g2 := F0 m 1031 ls [.int (nI 0)]) (congrArg (fun z => F0 m 1031 ls [.int z]) (lcz _)) ?_
    refine n_if_eq (tgt := 1036) hx hb (by decide) dL_law_1031 (by decide) (fun _ => ?_) (fun h9 => absurd rfl h9)
    refine lv_goto (tgt := 1797) hx hb dL_law_1036 (by decide) ?_
    refine W.widen (k := cells + 4) (n := slots + 40) (by omega) (by omega) ?_
    exact next g2 ad _ _ _ hR2 hIv2 hK2 hW hS (lv_sub hl [2, 3, 4, 5, 6, 7] rfl)

set_option maxHeartbeats 4000000 in
set_option maxRecDepth 100000 in
theorem lc_registerByLog {p : Program} {l : Launch} {e : Env} {s : State} {m : MethodId} {below : List Frame} {meth : Method} {c : Code} (hfl : l.stackTraces = false) {b L : Nat} {xs : Nat → Int32} {D : va_G} {Z : Nat → Nat} {N0 : Nat} {Q : State → Prop} (M : Mx p m c cL_law 9 s #[Value.ref b] wsL_law RL D Z N0) (hX : va_X b L xs s s.heap) (hbl : b < s.heap.size) (hbA : ¬ AA N0 b) (hL : L ≤ 2560) {k : Nat} (hk : 5 * k + 5 ≤ L) {g : T3} {ad : T2} {H : Heap} {locs : List Loc} {ls : Array Slot} {cells slots : Nat} (hc9 : cells + 4 ≤ 603072) (hs9 : slots + 40 ≤ 7219305) (hR : Rel g) (hIv : Iv g) (hK : Kv g) (hW : Wd D Z N0 g ad H) (hS : va_S (AA N0) s.heap H locs) (hl : lv_has ls 9 (lvL b ad k)) (next : LN p l e s m b below meth c D Z N0 Q k cells slots) : W p l e room_1 s m #[Value.ref b] below meth c H locs cells slots Q (F0 m 1039 ls []) := by
  have hx := M.1.1
  have hb := M.1.2.1
  have hts := M.1.2.2.2.2
  have hO := hW.2.2.1
  have hl : lv_has ls 9 [(5, .int (nI (5 * k))), (4, .ref (ad 41 0)), (3, .ref (ad 40 0)), (2, .ref (ad 20 0)), (1, .ref (ad 0 0)), (0, .ref b)] := hl
  refine lv_aload_n hx hb dL_law_1039 rfl (lv_at hl 4 rfl) ?_
  refine lv_aload_n hx hb dL_law_1040 rfl (lv_at hl 5 rfl) ?_
  refine lv_iload hx hb dL_law_1041 (lv_at hl 0 rfl) ?_
  refine lv_iconst (v := nI 1) hx hb dL_law_1043 (by decide) ?_
  refine n_iadd hx hb dL_law_1044 ?_
  refine r_sld M hX hbl hbA hS (by omega) (by omega) dL_law_1045 ?_
  refine lv_aload_n hx hb dL_law_1046 rfl (lv_at hl 2 rfl) ?_
  refine k_ci (vx_runSW (As := [.ref (ad 0 0), .int (xs (5 * k + 1)), .ref (ad 40 0)]) (rest := []) M.1 (c_L_registerByLog l hfl D Z N0 g ad (xs (5 * k + 1))) (vx_cwSW 3 hts gL_law_L_registerByLog rfl rfl rfl (by decide +kernel) ⟨(Nat.le_of_ble_eq_true rfl), (Nat.le_of_ble_eq_true rfl)⟩) (k_pS M hW hS) rfl rfl hl.1 rfl (lv_room (Nat.le_of_ble_eq_true rfl)) dL_law_1047 ⟨(show cells + 1 ≤ 603072 by omega), (show slots + 6 ≤ 7219305 by omega)⟩) hS (fun r1 g1 H locs hp hW hS => ?_)
  obtain ⟨hf1, h1⟩ := hp
  refine lv_istore (lv' := [(6, .int (r1)), (5, .int (nI (5 * k))), (4, .ref (ad 41 0)), (3, .ref (ad 40 0)), (2, .ref (ad 20 0)), (1, .ref (ad 0 0)), (0, .ref b)]) hx hb dL_law_1050 hl (by decide) rfl (fun ls hl => ?_)
  refine lv_aload_n hx hb dL_law_1052 rfl (lv_at hl 4 rfl) ?_
  refine lv_aload_n hx hb dL_law_1053 rfl (lv_at hl 6 rfl) ?_
  refine lv_iload hx hb dL_law_1054 (lv_at hl 1 rfl) ?_
  refine lv_iconst (v := nI 1) hx hb dL_law_1056 (by decide) ?_
  refine n_iadd hx hb dL_law_1057 ?_
  refine r_sld M hX hbl hbA hS (by omega) (by omega) dL_law_1058 ?_
  refine k_ci (k_rV (As := [.int (xs (5 * k + 1))]) (rest := []) M hW hS (c_X5_registerByLog l D Z N0 g1 ad (xs (5 * k + 1))) (cwV 1 hts gL_law_X5_registerByLog rfl rfl rfl (by decide +kernel) ⟨(Nat.le_of_ble_eq_true rfl), (Nat.le_of_ble_eq_true rfl)⟩) (r_recv M.2 hW 20 0 (lvM _) rfl rfl) rfl hl.1 rfl (Nat.le_of_ble_eq_true rfl) dL_law_1059 ⟨(show (cells + 1) + 0 ≤ 603072 by omega), (show (slots + 6) + 0 ≤ 7219305 by omega)⟩) hS (fun r2 g2 H locs hp hW hS => ?_)
  obtain ⟨hf2, h2⟩ := hp
  have st9 := st_registerByLog (y := 0) (z := 0) (u := 0) (b := 0) hR hK hO h1 h2
  obtain ⟨kk, hk3, rfl, h20, hv, hR2, hK2⟩ := st9
  have hIv2 : Iv g2 := hIv.fr (hf1.trans hf2)
  refine lv_istore (lv' := [(7, .int (r2)), (6, .int (nI (kk))), (5, .int (nI (5 * k))), (4, .ref (ad 41 0)), (3, .ref (ad 40 0)), (2, .ref (ad 20 0)), (1, .ref (ad 0 0)), (0, .ref b)]) hx hb dL_law_1062 hl (by decide) rfl (fun ls hl => ?_)
  refine lv_aload_n hx hb dL_law_1064 rfl (lv_at hl 5 rfl) ?_
  refine k_ci (k_rV (As := []) (rest := []) M hW hS (c_X5_thrown l D Z N0 g2 ad) (cwV 0 hts gL_law_X5_thrown rfl rfl rfl (by decide +kernel) ⟨(Nat.le_of_ble_eq_true rfl), (Nat.le_of_ble_eq_true rfl)⟩) (r_recv M.2 hW 20 0 (lvM _) rfl rfl) rfl hl.1 rfl (Nat.le_of_ble_eq_true rfl) dL_law_1065 ⟨(show ((cells + 1) + 0) + 0 ≤ 603072 by omega), (show ((slots + 6) + 0) + 0 ≤ 7219305 by omega)⟩) hS (fun r3 g3 H locs hp hW hS => ?_)
  obtain ⟨-, rfl, rfl⟩ := hp
  refine lv_iload hx hb dL_law_1068 (lv_at hl 1 rfl) ?_
  refine lv_icmp_eq (tgt := 1075) hx hb dL_law_1070 (by decide) (fun _ => ?_) (fun h9 => absurd (congrArg nI h20) h9)
  refine lv_iload hx hb dL_law_1075 (lv_at hl 1 rfl) ?_
  refine n_if_ne (tgt := 1092) hx hb (by omega) dL_law_1077 (by decide) (fun hz => ?_) (fun hz => ?_)
  · refine lv_goto (tgt := 1797) hx hb dL_law_1092 (by decide) ?_
    refine W.widen (k := cells + 4) (n := slots + 40) (by omega) (by omega) ?_
    exact next g2 ad _ _ _ hR2 hIv2 hK2 hW hS (lv_sub hl [2, 3, 4, 5, 6, 7] rfl)
  · refine lv_aload_n hx hb dL_law_1080 rfl (lv_at hl 4 rfl) ?_
    refine lv_iconst (v := nI 0) hx hb dL_law_1081 (by decide) ?_
    refine r_lld M hW dL_law_1082 ?_
    refine lv_iload hx hb dL_law_1083 (lv_at hl 0 rfl) ?_
    refine lv_i2l hx hb dL_law_1085 (hv hz).symm ?_
    refine W.lcmp hx hb dL_law_1086 ?_
    refine W.eq (g2 := F0 m 1087 ls [.int (nI 0)]) (congrArg (fun z => F0 m 1087 ls [.int z]) (lcz _)) ?_
    refine n_if_eq (tgt := 1092) hx hb (by decide) dL_law_1087 (by decide) (fun _ => ?_) (fun h9 => absurd rfl h9)
    refine lv_goto (tgt := 1797) hx hb dL_law_1092 (by decide) ?_
    refine W.widen (k := cells + 4) (n := slots + 40) (by omega) (by omega) ?_
    exact next g2 ad _ _ _ hR2 hIv2 hK2 hW hS (lv_sub hl [2, 3, 4, 5, 6, 7] rfl)

set_option maxHeartbeats 4000000 in
set_option maxRecDepth 100000 in
theorem lc_forecast {p : Program} {l : Launch} {e : Env} {s : State} {m : MethodId} {below : List Frame} {meth : Method} {c : Code} (hfl : l.stackTraces = false) {b L : Nat} {xs : Nat → Int32} {D : va_G} {Z : Nat → Nat} {N0 : Nat} {Q : State → Prop} (M : Mx p m c cL_law 9 s #[Value.ref b] wsL_law RL D Z N0) (hX : va_X b L xs s s.heap) (hbl : b < s.heap.size) (hbA : ¬ AA N0 b) (hL : L ≤ 2560) {k : Nat} (hk : 5 * k + 5 ≤ L) {g : T3} {ad : T2} {H : Heap} {locs : List Loc} {ls : Array Slot} {cells slots : Nat} (hc9 : cells + 4 ≤ 603072) (hs9 : slots + 40 ≤ 7219305) (hR : Rel g) (hIv : Iv g) (hK : Kv g) (hW : Wd D Z N0 g ad H) (hS : va_S (AA N0) s.heap H locs) (hl : lv_has ls 9 (lvL b ad k)) (next : LN p l e s m b below meth c D Z N0 Q k cells slots) : W p l e room_1 s m #[Value.ref b] below meth c H locs cells slots Q (F0 m 1095 ls []) := by
  have hx := M.1.1
  have hb := M.1.2.1
  have hts := M.1.2.2.2.2
  have hO := hW.2.2.1
  have hl : lv_has ls 9 [(5, .int (nI (5 * k))), (4, .ref (ad 41 0)), (3, .ref (ad 40 0)), (2, .ref (ad 20 0)), (1, .ref (ad 0 0)), (0, .ref b)] := hl
  refine lv_aload_n hx hb dL_law_1095 rfl (lv_at hl 4 rfl) ?_
  refine lv_aload_n hx hb dL_law_1096 rfl (lv_at hl 5 rfl) ?_
  refine lv_iload hx hb dL_law_1097 (lv_at hl 0 rfl) ?_
  refine lv_iconst (v := nI 1) hx hb dL_law_1099 (by decide) ?_
  refine n_iadd hx hb dL_law_1100 ?_
  refine r_sld M hX hbl hbA hS (by omega) (by omega) dL_law_1101 ?_
  refine lv_aload_n hx hb dL_law_1102 rfl (lv_at hl 2 rfl) ?_
  refine k_ci (vx_runSW (As := [.ref (ad 0 0), .int (xs (5 * k + 1)), .ref (ad 40 0)]) (rest := []) M.1 (c_L_forecast l hfl D Z N0 g ad (xs (5 * k + 1))) (vx_cwSW 3 hts gL_law_L_forecast rfl rfl rfl (by decide +kernel) ⟨(Nat.le_of_ble_eq_true rfl), (Nat.le_of_ble_eq_true rfl)⟩) (k_pS M hW hS) rfl rfl hl.1 rfl (lv_room (Nat.le_of_ble_eq_true rfl)) dL_law_1103 ⟨(show cells + 1 ≤ 603072 by omega), (show slots + 6 ≤ 7219305 by omega)⟩) hS (fun r1 g1 H locs hp hW hS => ?_)
  obtain ⟨hf1, h1⟩ := hp
  refine lv_istore (lv' := [(6, .int (r1)), (5, .int (nI (5 * k))), (4, .ref (ad 41 0)), (3, .ref (ad 40 0)), (2, .ref (ad 20 0)), (1, .ref (ad 0 0)), (0, .ref b)]) hx hb dL_law_1106 hl (by decide) rfl (fun ls hl => ?_)
  refine lv_aload_n hx hb dL_law_1108 rfl (lv_at hl 4 rfl) ?_
  refine lv_aload_n hx hb dL_law_1109 rfl (lv_at hl 6 rfl) ?_
  refine lv_iload hx hb dL_law_1110 (lv_at hl 1 rfl) ?_
  refine lv_iconst (v := nI 1) hx hb dL_law_1112 (by decide) ?_
  refine n_iadd hx hb dL_law_1113 ?_
  refine r_sld M hX hbl hbA hS (by omega) (by omega) dL_law_1114 ?_
  refine k_ci (k_rV (As := [.int (xs (5 * k + 1))]) (rest := []) M hW hS (c_X5_forecast l D Z N0 g1 ad (xs (5 * k + 1))) (cwV 1 hts gL_law_X5_forecast rfl rfl rfl (by decide +kernel) ⟨(Nat.le_of_ble_eq_true rfl), (Nat.le_of_ble_eq_true rfl)⟩) (r_recv M.2 hW 20 0 (lvM _) rfl rfl) rfl hl.1 rfl (Nat.le_of_ble_eq_true rfl) dL_law_1115 ⟨(show (cells + 1) + 0 ≤ 603072 by omega), (show (slots + 6) + 0 ≤ 7219305 by omega)⟩) hS (fun r2 g2 H locs hp hW hS => ?_)
  obtain ⟨hf2, h2⟩ := hp
  have st9 := st_forecast (y := 0) (z := 0) (u := 0) (b := 0) hR hK hO h1 h2
  obtain ⟨kk, hk3, rfl, h20, hv, hR2, hK2⟩ := st9
  have hIv2 : Iv g2 := hIv.fr (hf1.trans hf2)
  refine lv_istore (lv' := [(7, .int (r2)), (6, .int (nI (kk))), (5, .int (nI (5 * k))), (4, .ref (ad 41 0)), (3, .ref (ad 40 0)), (2, .ref (ad 20 0)), (1, .ref (ad 0 0)), (0, .ref b)]) hx hb dL_law_1118 hl (by decide) rfl (fun ls hl => ?_)
  refine lv_aload_n hx hb dL_law_1120 rfl (lv_at hl 5 rfl) ?_
  refine k_ci (k_rV (As := []) (rest := []) M hW hS (c_X5_thrown l D Z N0 g2 ad) (cwV 0 hts gL_law_X5_thrown rfl rfl rfl (by decide +kernel) ⟨(Nat.le_of_ble_eq_true rfl), (Nat.le_of_ble_eq_true rfl)⟩) (r_recv M.2 hW 20 0 (lvM _) rfl rfl) rfl hl.1 rfl (Nat.le_of_ble_eq_true rfl) dL_law_1121 ⟨(show ((cells + 1) + 0) + 0 ≤ 603072 by omega), (show ((slots + 6) + 0) + 0 ≤ 7219305 by omega)⟩) hS (fun r3 g3 H locs hp hW hS => ?_)
  obtain ⟨-, rfl, rfl⟩ := hp
  refine lv_iload hx hb dL_law_1124 (lv_at hl 1 rfl) ?_
  refine lv_icmp_eq (tgt := 1131) hx hb dL_law_1126 (by decide) (fun _ => ?_) (fun h9 => absurd (congrArg nI h20) h9)
  refine lv_iload hx hb dL_law_1131 (lv_at hl 1 rfl) ?_
  refine n_if_ne (tgt := 1148) hx hb (by omega) dL_law_1133 (by decide) (fun hz => ?_) (fun hz => ?_)
  · refine lv_goto (tgt := 1797) hx hb dL_law_1148 (by decide) ?_
    refine W.widen (k := cells + 4) (n := slots + 40) (by omega) (by omega) ?_
    exact next g2 ad _ _ _ hR2 hIv2 hK2 hW hS (lv_sub hl [2, 3, 4, 5, 6, 7] rfl)
  · refine lv_aload_n hx hb dL_law_1136 rfl (lv_at hl 4 rfl) ?_
    refine lv_iconst (v := nI 0) hx hb dL_law_1137 (by decide) ?_
    refine r_lld M hW dL_law_1138 ?_
    refine lv_iload hx hb dL_law_1139 (lv_at hl 0 rfl) ?_
    refine lv_i2l hx hb dL_law_1141 (hv hz).symm ?_
    refine W.lcmp hx hb dL_law_1142 ?_
    refine W.eq (g2 := F0 m 1143 ls [.int (nI 0)]) (congrArg (fun z => F0 m 1143 ls [.int z]) (lcz _)) ?_
    refine n_if_eq (tgt := 1148) hx hb (by decide) dL_law_1143 (by decide) (fun _ => ?_) (fun h9 => absurd rfl h9)
    refine lv_goto (tgt := 1797) hx hb dL_law_1148 (by decide) ?_
    refine W.widen (k := cells + 4) (n := slots + 40) (by omega) (by omega) ?_
    exact next g2 ad _ _ _ hR2 hIv2 hK2 hW hS (lv_sub hl [2, 3, 4, 5, 6, 7] rfl)

set_option maxHeartbeats 4000000 in
set_option maxRecDepth 100000 in
theorem lc_entries {p : Program} {l : Launch} {e : Env} {s : State} {m : MethodId} {below : List Frame} {meth : Method} {c : Code} (hfl : l.stackTraces = false) {b L : Nat} {xs : Nat → Int32} {D : va_G} {Z : Nat → Nat} {N0 : Nat} {Q : State → Prop} (M : Mx p m c cL_law 9 s #[Value.ref b] wsL_law RL D Z N0) (hX : va_X b L xs s s.heap) (hbl : b < s.heap.size) (hbA : ¬ AA N0 b) (hL : L ≤ 2560) {k : Nat} (hk : 5 * k + 5 ≤ L) {g : T3} {ad : T2} {H : Heap} {locs : List Loc} {ls : Array Slot} {cells slots : Nat} (hc9 : cells + 4 ≤ 603072) (hs9 : slots + 40 ≤ 7219305) (hR : Rel g) (hIv : Iv g) (hK : Kv g) (hW : Wd D Z N0 g ad H) (hS : va_S (AA N0) s.heap H locs) (hl : lv_has ls 9 (lvL b ad k)) (next : LN p l e s m b below meth c D Z N0 Q k cells slots) : W p l e room_1 s m #[Value.ref b] below meth c H locs cells slots Q (F0 m 1151 ls []) := by
  have hx := M.1.1
  have hb := M.1.2.1
  have hts := M.1.2.2.2.2
  have hO := hW.2.2.1
  have hl : lv_has ls 9 [(5, .int (nI (5 * k))), (4, .ref (ad 41 0)), (3, .ref (ad 40 0)), (2, .ref (ad 20 0)), (1, .ref (ad 0 0)), (0, .ref b)] := hl
  refine lv_aload_n hx hb dL_law_1151 rfl (lv_at hl 4 rfl) ?_
  refine k_ci (k_rV (As := []) (rest := []) M hW hS (c_X4_entries l D Z N0 g ad) (cwV 0 hts gL_law_X4_entries rfl rfl rfl (by decide +kernel) ⟨(Nat.le_of_ble_eq_true rfl), (Nat.le_of_ble_eq_true rfl)⟩) (r_recv M.2 hW 0 0 (lv0 _) rfl rfl) rfl hl.1 rfl (Nat.le_of_ble_eq_true rfl) dL_law_1152 ⟨(show cells + 0 ≤ 603072 by omega), (show slots + 0 ≤ 7219305 by omega)⟩) hS (fun r1 g1 H locs hp hW hS => ?_)
  obtain ⟨hf1, rfl, rfl⟩ := hp
  refine lv_aload_n hx hb dL_law_1155 rfl (lv_at hl 3 rfl) ?_
  refine k_ci (k_rV (As := []) (rest := [.int (nI (g 5 0 2))]) M hW hS (c_X5_entries l D Z N0 g ad) (cwV 0 hts gL_law_X5_entries rfl rfl rfl (by decide +kernel) ⟨(Nat.le_of_ble_eq_true rfl), (Nat.le_of_ble_eq_true rfl)⟩) (r_recv M.2 hW 20 0 (lvM _) rfl rfl) rfl hl.1 rfl (Nat.le_of_ble_eq_true rfl) dL_law_1156 ⟨(show (cells + 0) + 0 ≤ 603072 by omega), (show (slots + 0) + 0 ≤ 7219305 by omega)⟩) hS (fun r2 g2 H locs hp hW hS => ?_)
  obtain ⟨hf2, rfl, rfl⟩ := hp
  refine lv_icmp_eq (tgt := 1797) hx hb dL_law_1159 (by decide) (fun _ => ?_) (fun h9 => absurd (congrArg nI (hR.2.2.1.1)) h9)
  refine W.widen (k := cells + 4) (n := slots + 40) (by omega) (by omega) ?_
  exact next (up g 20 0 20 0) ad _ _ _ (Rel_th hR 0) (hIv.fr ((Fr.rf _).up rfl)) hK hW hS (lv_sub hl [0, 1, 2, 3, 4, 5] rfl)

set_option maxHeartbeats 4000000 in
set_option maxRecDepth 100000 in
theorem lc_entry {p : Program} {l : Launch} {e : Env} {s : State} {m : MethodId} {below : List Frame} {meth : Method} {c : Code} (hfl : l.stackTraces = false) {b L : Nat} {xs : Nat → Int32} {D : va_G} {Z : Nat → Nat} {N0 : Nat} {Q : State → Prop} (M : Mx p m c cL_law 9 s #[Value.ref b] wsL_law RL D Z N0) (hX : va_X b L xs s s.heap) (hbl : b < s.heap.size) (hbA : ¬ AA N0 b) (hL : L ≤ 2560) {k : Nat} (hk : 5 * k + 5 ≤ L) {g : T3} {ad : T2} {H : Heap} {locs : List Loc} {ls : Array Slot} {cells slots : Nat} (hc9 : cells + 4 ≤ 603072) (hs9 : slots + 40 ≤ 7219305) (hR : Rel g) (hIv : Iv g) (hK : Kv g) (hW : Wd D Z N0 g ad H) (hS : va_S (AA N0) s.heap H locs) (hl : lv_has ls 9 (lvL b ad k)) (next : LN p l e s m b below meth c D Z N0 Q k cells slots) : W p l e room_1 s m #[Value.ref b] below meth c H locs cells slots Q (F0 m 1164 ls []) := by
  have hx := M.1.1
  have hb := M.1.2.1
  have hts := M.1.2.2.2.2
  have hO := hW.2.2.1
  have hl : lv_has ls 9 [(5, .int (nI (5 * k))), (4, .ref (ad 41 0)), (3, .ref (ad 40 0)), (2, .ref (ad 20 0)), (1, .ref (ad 0 0)), (0, .ref b)] := hl
  refine lv_aload_n hx hb dL_law_1164 rfl (lv_at hl 4 rfl) ?_
  refine lv_aload_n hx hb dL_law_1165 rfl (lv_at hl 5 rfl) ?_
  refine lv_iload hx hb dL_law_1166 (lv_at hl 0 rfl) ?_
  refine lv_iconst (v := nI 1) hx hb dL_law_1168 (by decide) ?_
  refine n_iadd hx hb dL_law_1169 ?_
  refine r_sld M hX hbl hbA hS (by omega) (by omega) dL_law_1170 ?_
  refine lv_aload_n hx hb dL_law_1171 rfl (lv_at hl 2 rfl) ?_
  refine k_ci (vx_runSW (As := [.ref (ad 0 0), .int (xs (5 * k + 1)), .ref (ad 40 0)]) (rest := []) M.1 (c_L_entry l hfl D Z N0 g ad (xs (5 * k + 1))) (vx_cwSW 3 hts gL_law_L_entry rfl rfl rfl (by decide +kernel) ⟨(Nat.le_of_ble_eq_true rfl), (Nat.le_of_ble_eq_true rfl)⟩) (k_pS M hW hS) rfl rfl hl.1 rfl (lv_room (Nat.le_of_ble_eq_true rfl)) dL_law_1172 ⟨(show cells + 1 ≤ 603072 by omega), (show slots + 6 ≤ 7219305 by omega)⟩) hS (fun r1 g1 H locs hp hW hS => ?_)
  obtain ⟨hf1, h1⟩ := hp
  refine lv_istore (lv' := [(6, .int (r1)), (5, .int (nI (5 * k))), (4, .ref (ad 41 0)), (3, .ref (ad 40 0)), (2, .ref (ad 20 0)), (1, .ref (ad 0 0)), (0, .ref b)]) hx hb dL_law_1175 hl (by decide) rfl (fun ls hl => ?_)
  refine lv_aload_n hx hb dL_law_1177 rfl (lv_at hl 4 rfl) ?_
  refine lv_aload_n hx hb dL_law_1178 rfl (lv_at hl 6 rfl) ?_
  refine lv_iload hx hb dL_law_1179 (lv_at hl 1 rfl) ?_
  refine lv_iconst (v := nI 1) hx hb dL_law_1181 (by decide) ?_
  refine n_iadd hx hb dL_law_1182 ?_
  refine r_sld M hX hbl hbA hS (by omega) (by omega) dL_law_1183 ?_
  refine k_ci (k_rV (As := [.int (xs (5 * k + 1))]) (rest := []) M hW hS (c_X5_entry l D Z N0 g1 ad (xs (5 * k + 1))) (cwV 1 hts gL_law_X5_entry rfl rfl rfl (by decide +kernel) ⟨(Nat.le_of_ble_eq_true rfl), (Nat.le_of_ble_eq_true rfl)⟩) (r_recv M.2 hW 20 0 (lvM _) rfl rfl) rfl hl.1 rfl (Nat.le_of_ble_eq_true rfl) dL_law_1184 ⟨(show (cells + 1) + 0 ≤ 603072 by omega), (show (slots + 6) + 0 ≤ 7219305 by omega)⟩) hS (fun r2 g2 H locs hp hW hS => ?_)
  obtain ⟨hf2, h2⟩ := hp
  have st9 := st_entry (y := 0) (z := 0) (u := 0) (b := 0) hR hK hO h1 h2
  obtain ⟨kk, hk3, rfl, h20, hv, hR2, hK2⟩ := st9
  have hIv2 : Iv g2 := hIv.fr (hf1.trans hf2)
  refine lv_istore (lv' := [(7, .int (r2)), (6, .int (nI (kk))), (5, .int (nI (5 * k))), (4, .ref (ad 41 0)), (3, .ref (ad 40 0)), (2, .ref (ad 20 0)), (1, .ref (ad 0 0)), (0, .ref b)]) hx hb dL_law_1187 hl (by decide) rfl (fun ls hl => ?_)
  refine lv_aload_n hx hb dL_law_1189 rfl (lv_at hl 5 rfl) ?_
  refine k_ci (k_rV (As := []) (rest := []) M hW hS (c_X5_thrown l D Z N0 g2 ad) (cwV 0 hts gL_law_X5_thrown rfl rfl rfl (by decide +kernel) ⟨(Nat.le_of_ble_eq_true rfl), (Nat.le_of_ble_eq_true rfl)⟩) (r_recv M.2 hW 20 0 (lvM _) rfl rfl) rfl hl.1 rfl (Nat.le_of_ble_eq_true rfl) dL_law_1190 ⟨(show ((cells + 1) + 0) + 0 ≤ 603072 by omega), (show ((slots + 6) + 0) + 0 ≤ 7219305 by omega)⟩) hS (fun r3 g3 H locs hp hW hS => ?_)
  obtain ⟨-, rfl, rfl⟩ := hp
  refine lv_iload hx hb dL_law_1193 (lv_at hl 1 rfl) ?_
  refine lv_icmp_eq (tgt := 1200) hx hb dL_law_1195 (by decide) (fun _ => ?_) (fun h9 => absurd (congrArg nI h20) h9)
  refine lv_iload hx hb dL_law_1200 (lv_at hl 1 rfl) ?_
  refine n_if_ne (tgt := 1217) hx hb (by omega) dL_law_1202 (by decide) (fun hz => ?_) (fun hz => ?_)
  · refine lv_goto (tgt := 1797) hx hb dL_law_1217 (by decide) ?_
    refine W.widen (k := cells + 4) (n := slots + 40) (by omega) (by omega) ?_
    exact next g2 ad _ _ _ hR2 hIv2 hK2 hW hS (lv_sub hl [2, 3, 4, 5, 6, 7] rfl)
  · refine lv_aload_n hx hb dL_law_1205 rfl (lv_at hl 4 rfl) ?_
    refine lv_iconst (v := nI 0) hx hb dL_law_1206 (by decide) ?_
    refine r_lld M hW dL_law_1207 ?_
    refine lv_iload hx hb dL_law_1208 (lv_at hl 0 rfl) ?_
    refine lv_i2l hx hb dL_law_1210 (hv hz).symm ?_
    refine W.lcmp hx hb dL_law_1211 ?_
    refine W.eq (g2 := F0 m 1212 ls [.int (nI 0)]) (congrArg (fun z => F0 m 1212 ls [.int z]) (lcz _)) ?_
    refine n_if_eq (tgt := 1217) hx hb (by decide) dL_law_1212 (by decide) (fun _ => ?_) (fun h9 => absurd rfl h9)
    refine lv_goto (tgt := 1797) hx hb dL_law_1217 (by decide) ?_
    refine W.widen (k := cells + 4) (n := slots + 40) (by omega) (by omega) ?_
    exact next g2 ad _ _ _ hR2 hIv2 hK2 hW hS (lv_sub hl [2, 3, 4, 5, 6, 7] rfl)

set_option maxHeartbeats 4000000 in
set_option maxRecDepth 100000 in
theorem lc_seal {p : Program} {l : Launch} {e : Env} {s : State} {m : MethodId} {below : List Frame} {meth : Method} {c : Code} (hfl : l.stackTraces = false) {b L : Nat} {xs : Nat → Int32} {D : va_G} {Z : Nat → Nat} {N0 : Nat} {Q : State → Prop} (M : Mx p m c cL_law 9 s #[Value.ref b] wsL_law RL D Z N0) (hX : va_X b L xs s s.heap) (hbl : b < s.heap.size) (hbA : ¬ AA N0 b) (hL : L ≤ 2560) {k : Nat} (hk : 5 * k + 5 ≤ L) {g : T3} {ad : T2} {H : Heap} {locs : List Loc} {ls : Array Slot} {cells slots : Nat} (hc9 : cells + 4 ≤ 603072) (hs9 : slots + 40 ≤ 7219305) (hR : Rel g) (hIv : Iv g) (hK : Kv g) (hW : Wd D Z N0 g ad H) (hS : va_S (AA N0) s.heap H locs) (hl : lv_has ls 9 (lvL b ad k)) (next : LN p l e s m b below meth c D Z N0 Q k cells slots) : W p l e room_1 s m #[Value.ref b] below meth c H locs cells slots Q (F0 m 1220 ls []) := by
  have hx := M.1.1
  have hb := M.1.2.1
  have hts := M.1.2.2.2.2
  have hO := hW.2.2.1
  have hl : lv_has ls 9 [(5, .int (nI (5 * k))), (4, .ref (ad 41 0)), (3, .ref (ad 40 0)), (2, .ref (ad 20 0)), (1, .ref (ad 0 0)), (0, .ref b)] := hl
  refine lv_aload_n hx hb dL_law_1220 rfl (lv_at hl 4 rfl) ?_
  refine lv_aload_n hx hb dL_law_1221 rfl (lv_at hl 5 rfl) ?_
  refine lv_iload hx hb dL_law_1222 (lv_at hl 0 rfl) ?_
  refine lv_iconst (v := nI 1) hx hb dL_law_1224 (by decide) ?_
  refine n_iadd hx hb dL_law_1225 ?_
  refine r_sld M hX hbl hbA hS (by omega) (by omega) dL_law_1226 ?_
  refine lv_aload_n hx hb dL_law_1227 rfl (lv_at hl 5 rfl) ?_
  refine lv_iload hx hb dL_law_1228 (lv_at hl 0 rfl) ?_
  refine lv_iconst (v := nI 2) hx hb dL_law_1230 (by decide) ?_
  refine n_iadd hx hb dL_law_1231 ?_
  refine r_sld M hX hbl hbA hS (by omega) (by omega) dL_law_1232 ?_
  refine lv_aload_n hx hb dL_law_1233 rfl (lv_at hl 2 rfl) ?_
  refine k_cAi (vx_runSW (As := [.ref (ad 0 0), .int (xs (5 * k + 1)), .int (xs (5 * k + 2)), .ref (ad 40 0)]) (rest := []) M.1 (c_L_seal l hfl D Z N0 g ad (xs (5 * k + 1)) (xs (5 * k + 2)) hIv) (vx_cwSW 4 hts gL_law_L_seal rfl rfl rfl (by decide +kernel) ⟨(Nat.le_of_ble_eq_true rfl), (Nat.le_of_ble_eq_true rfl)⟩) (k_pS M hW hS) rfl rfl hl.1 rfl (lv_room (Nat.le_of_ble_eq_true rfl)) dL_law_1234 ⟨(show cells + 3 ≤ 603072 by omega), (show slots + 16 ≤ 7219305 by omega)⟩) hS (fun r1 g1 ad1 H locs hp hW hS => ?_)
  have h1 := hp
  have hAS : AdS ad ad1 := by
    rcases id hp with ⟨-, _, _, ⟨_, _, _, _, _, _, _, _, _, _, _, _, h⟩, -⟩ | ⟨-, -, h, -⟩ | ⟨-, -, h, -⟩
    · exact h
    · rw [h]; exact AdS.rf ad
    · rw [h]; exact AdS.rf ad
  have hIv1 : Iv g1 := by
    rcases id hp with ⟨-, _, _, ⟨a, b, -, -, -, -, -, -, -, -, -, h, -⟩, n9, -, h9⟩ | ⟨-, h, -⟩ | ⟨-, h, -⟩
    · rw [h9, h]; exact (Iv_sl hIv a b).fr ((Fr.rf _).up rfl)
    · rw [h]; exact hIv
    · rw [h]; exact hIv
  have e0 : ad 0 0 = ad1 0 0 := (hAS 0 0 (by decide)).symm
  have e20 : ad 20 0 = ad1 20 0 := (hAS 20 0 (by decide)).symm
  have e40 : ad 40 0 = ad1 40 0 := (hAS 40 0 (by decide)).symm
  have e41 : ad 41 0 = ad1 41 0 := (hAS 41 0 (by decide)).symm
  rw [e0, e20, e40, e41] at hl
  refine lv_istore (lv' := [(6, .int (r1)), (5, .int (nI (5 * k))), (4, .ref (ad1 41 0)), (3, .ref (ad1 40 0)), (2, .ref (ad1 20 0)), (1, .ref (ad1 0 0)), (0, .ref b)]) hx hb dL_law_1237 hl (by decide) rfl (fun ls hl => ?_)
  refine lv_aload_n hx hb dL_law_1239 rfl (lv_at hl 4 rfl) ?_
  refine lv_aload_n hx hb dL_law_1240 rfl (lv_at hl 6 rfl) ?_
  refine lv_iload hx hb dL_law_1241 (lv_at hl 1 rfl) ?_
  refine lv_iconst (v := nI 1) hx hb dL_law_1243 (by decide) ?_
  refine n_iadd hx hb dL_law_1244 ?_
  refine r_sld M hX hbl hbA hS (by omega) (by omega) dL_law_1245 ?_
  refine lv_aload_n hx hb dL_law_1246 rfl (lv_at hl 6 rfl) ?_
  refine lv_iload hx hb dL_law_1247 (lv_at hl 1 rfl) ?_
  refine lv_iconst (v := nI 2) hx hb dL_law_1249 (by decide) ?_
  refine n_iadd hx hb dL_law_1250 ?_
  refine r_sld M hX hbl hbA hS (by omega) (by omega) dL_law_1251 ?_
  refine k_ci (k_rV (As := [.int (xs (5 * k + 1)), .int (xs (5 * k + 2))]) (rest := []) M hW hS (c_X5_seal l D Z N0 g1 ad1 (xs (5 * k + 1)) (xs (5 * k + 2))) (cwV 2 hts gL_law_X5_seal rfl rfl rfl (by decide +kernel) ⟨(Nat.le_of_ble_eq_true rfl), (Nat.le_of_ble_eq_true rfl)⟩) (r_recv M.2 hW 20 0 (lvM _) rfl rfl) rfl hl.1 rfl (Nat.le_of_ble_eq_true rfl) dL_law_1252 ⟨(show (cells + 3) + 0 ≤ 603072 by omega), (show (slots + 16) + 0 ≤ 7219305 by omega)⟩) hS (fun r2 g2 H locs hp hW hS => ?_)
  obtain ⟨hf2, h2⟩ := hp
  have st9 := st_seal (z := 0) (u := 0) (b := 0) hR hK hO h1 h2
  obtain ⟨kk, hk3, rfl, h20, hv, hR2, hK2⟩ := st9
  have hIv2 : Iv g2 := hIv1.fr hf2
  refine lv_istore (lv' := [(7, .int (r2)), (6, .int (nI (kk))), (5, .int (nI (5 * k))), (4, .ref (ad1 41 0)), (3, .ref (ad1 40 0)), (2, .ref (ad1 20 0)), (1, .ref (ad1 0 0)), (0, .ref b)]) hx hb dL_law_1255 hl (by decide) rfl (fun ls hl => ?_)
  refine lv_aload_n hx hb dL_law_1257 rfl (lv_at hl 5 rfl) ?_
  refine k_ci (k_rV (As := []) (rest := []) M hW hS (c_X5_thrown l D Z N0 g2 ad1) (cwV 0 hts gL_law_X5_thrown rfl rfl rfl (by decide +kernel) ⟨(Nat.le_of_ble_eq_true rfl), (Nat.le_of_ble_eq_true rfl)⟩) (r_recv M.2 hW 20 0 (lvM _) rfl rfl) rfl hl.1 rfl (Nat.le_of_ble_eq_true rfl) dL_law_1258 ⟨(show ((cells + 3) + 0) + 0 ≤ 603072 by omega), (show ((slots + 16) + 0) + 0 ≤ 7219305 by omega)⟩) hS (fun r3 g3 H locs hp hW hS => ?_)
  obtain ⟨-, rfl, rfl⟩ := hp
  refine lv_iload hx hb dL_law_1261 (lv_at hl 1 rfl) ?_
  refine lv_icmp_eq (tgt := 1268) hx hb dL_law_1263 (by decide) (fun _ => ?_) (fun h9 => absurd (congrArg nI h20) h9)
  refine lv_iload hx hb dL_law_1268 (lv_at hl 1 rfl) ?_
  refine n_if_ne (tgt := 1285) hx hb (by omega) dL_law_1270 (by decide) (fun hz => ?_) (fun hz => ?_)
  · refine lv_goto (tgt := 1797) hx hb dL_law_1285 (by decide) ?_
    refine W.widen (k := cells + 4) (n := slots + 40) (by omega) (by omega) ?_
    exact next g2 ad1 _ _ _ hR2 hIv2 hK2 hW hS (lv_sub hl [2, 3, 4, 5, 6, 7] rfl)
  · refine lv_aload_n hx hb dL_law_1273 rfl (lv_at hl 4 rfl) ?_
    refine lv_iconst (v := nI 0) hx hb dL_law_1274 (by decide) ?_
    refine r_lld M hW dL_law_1275 ?_
    refine lv_iload hx hb dL_law_1276 (lv_at hl 0 rfl) ?_
    refine lv_i2l hx hb dL_law_1278 (hv hz).symm ?_
    refine W.lcmp hx hb dL_law_1279 ?_
    refine W.eq (g2 := F0 m 1280 ls [.int (nI 0)]) (congrArg (fun z => F0 m 1280 ls [.int z]) (lcz _)) ?_
    refine n_if_eq (tgt := 1285) hx hb (by decide) dL_law_1280 (by decide) (fun _ => ?_) (fun h9 => absurd rfl h9)
    refine lv_goto (tgt := 1797) hx hb dL_law_1285 (by decide) ?_
    refine W.widen (k := cells + 4) (n := slots + 40) (by omega) (by omega) ?_
    exact next g2 ad1 _ _ _ hR2 hIv2 hK2 hW hS (lv_sub hl [2, 3, 4, 5, 6, 7] rfl)

set_option maxHeartbeats 4000000 in
set_option maxRecDepth 100000 in
theorem lc_sealAhead {p : Program} {l : Launch} {e : Env} {s : State} {m : MethodId} {below : List Frame} {meth : Method} {c : Code} (hfl : l.stackTraces = false) {b L : Nat} {xs : Nat → Int32} {D : va_G} {Z : Nat → Nat} {N0 : Nat} {Q : State → Prop} (M : Mx p m c cL_law 9 s #[Value.ref b] wsL_law RL D Z N0) (hX : va_X b L xs s s.heap) (hbl : b < s.heap.size) (hbA : ¬ AA N0 b) (hL : L ≤ 2560) {k : Nat} (hk : 5 * k + 5 ≤ L) {g : T3} {ad : T2} {H : Heap} {locs : List Loc} {ls : Array Slot} {cells slots : Nat} (hc9 : cells + 4 ≤ 603072) (hs9 : slots + 40 ≤ 7219305) (hR : Rel g) (hIv : Iv g) (hK : Kv g) (hW : Wd D Z N0 g ad H) (hS : va_S (AA N0) s.heap H locs) (hl : lv_has ls 9 (lvL b ad k)) (next : LN p l e s m b below meth c D Z N0 Q k cells slots) : W p l e room_1 s m #[Value.ref b] below meth c H locs cells slots Q (F0 m 1288 ls []) := by
  have hx := M.1.1
  have hb := M.1.2.1
  have hts := M.1.2.2.2.2
  have hO := hW.2.2.1
  have hl : lv_has ls 9 [(5, .int (nI (5 * k))), (4, .ref (ad 41 0)), (3, .ref (ad 40 0)), (2, .ref (ad 20 0)), (1, .ref (ad 0 0)), (0, .ref b)] := hl
  refine lv_aload_n hx hb dL_law_1288 rfl (lv_at hl 4 rfl) ?_
  refine lv_aload_n hx hb dL_law_1289 rfl (lv_at hl 5 rfl) ?_
  refine lv_iload hx hb dL_law_1290 (lv_at hl 0 rfl) ?_
  refine lv_iconst (v := nI 1) hx hb dL_law_1292 (by decide) ?_
  refine n_iadd hx hb dL_law_1293 ?_
  refine r_sld M hX hbl hbA hS (by omega) (by omega) dL_law_1294 ?_
  refine lv_aload_n hx hb dL_law_1295 rfl (lv_at hl 2 rfl) ?_
  refine k_ci (vx_runSW (As := [.ref (ad 0 0), .int (xs (5 * k + 1)), .ref (ad 40 0)]) (rest := []) M.1 (c_L_sealAhead l hfl D Z N0 g ad (xs (5 * k + 1))) (vx_cwSW 3 hts gL_law_L_sealAhead rfl rfl rfl (by decide +kernel) ⟨(Nat.le_of_ble_eq_true rfl), (Nat.le_of_ble_eq_true rfl)⟩) (k_pS M hW hS) rfl rfl hl.1 rfl (lv_room (Nat.le_of_ble_eq_true rfl)) dL_law_1296 ⟨(show cells + 2 ≤ 603072 by omega), (show slots + 12 ≤ 7219305 by omega)⟩) hS (fun r1 g1 H locs hp hW hS => ?_)
  obtain ⟨hf1, h1⟩ := hp
  refine lv_istore (lv' := [(6, .int (r1)), (5, .int (nI (5 * k))), (4, .ref (ad 41 0)), (3, .ref (ad 40 0)), (2, .ref (ad 20 0)), (1, .ref (ad 0 0)), (0, .ref b)]) hx hb dL_law_1299 hl (by decide) rfl (fun ls hl => ?_)
  refine lv_aload_n hx hb dL_law_1301 rfl (lv_at hl 4 rfl) ?_
  refine lv_aload_n hx hb dL_law_1302 rfl (lv_at hl 6 rfl) ?_
  refine lv_iload hx hb dL_law_1303 (lv_at hl 1 rfl) ?_
  refine lv_iconst (v := nI 1) hx hb dL_law_1305 (by decide) ?_
  refine n_iadd hx hb dL_law_1306 ?_
  refine r_sld M hX hbl hbA hS (by omega) (by omega) dL_law_1307 ?_
  refine k_ci (k_rV (As := [.int (xs (5 * k + 1))]) (rest := []) M hW hS (c_X5_sealAhead l D Z N0 g1 ad (xs (5 * k + 1))) (cwV 1 hts gL_law_X5_sealAhead rfl rfl rfl (by decide +kernel) ⟨(Nat.le_of_ble_eq_true rfl), (Nat.le_of_ble_eq_true rfl)⟩) (r_recv M.2 hW 20 0 (lvM _) rfl rfl) rfl hl.1 rfl (Nat.le_of_ble_eq_true rfl) dL_law_1308 ⟨(show (cells + 2) + 0 ≤ 603072 by omega), (show (slots + 12) + 0 ≤ 7219305 by omega)⟩) hS (fun r2 g2 H locs hp hW hS => ?_)
  obtain ⟨hf2, h2⟩ := hp
  have st9 := st_sealAhead (y := 0) (z := 0) (u := 0) (b := 0) hR hK hO h1 h2
  obtain ⟨kk, hk3, rfl, h20, hv, hR2, hK2⟩ := st9
  have hIv2 : Iv g2 := hIv.fr (hf1.trans hf2)
  refine lv_istore (lv' := [(7, .int (r2)), (6, .int (nI (kk))), (5, .int (nI (5 * k))), (4, .ref (ad 41 0)), (3, .ref (ad 40 0)), (2, .ref (ad 20 0)), (1, .ref (ad 0 0)), (0, .ref b)]) hx hb dL_law_1311 hl (by decide) rfl (fun ls hl => ?_)
  refine lv_aload_n hx hb dL_law_1313 rfl (lv_at hl 5 rfl) ?_
  refine k_ci (k_rV (As := []) (rest := []) M hW hS (c_X5_thrown l D Z N0 g2 ad) (cwV 0 hts gL_law_X5_thrown rfl rfl rfl (by decide +kernel) ⟨(Nat.le_of_ble_eq_true rfl), (Nat.le_of_ble_eq_true rfl)⟩) (r_recv M.2 hW 20 0 (lvM _) rfl rfl) rfl hl.1 rfl (Nat.le_of_ble_eq_true rfl) dL_law_1314 ⟨(show ((cells + 2) + 0) + 0 ≤ 603072 by omega), (show ((slots + 12) + 0) + 0 ≤ 7219305 by omega)⟩) hS (fun r3 g3 H locs hp hW hS => ?_)
  obtain ⟨-, rfl, rfl⟩ := hp
  refine lv_iload hx hb dL_law_1317 (lv_at hl 1 rfl) ?_
  refine lv_icmp_eq (tgt := 1324) hx hb dL_law_1319 (by decide) (fun _ => ?_) (fun h9 => absurd (congrArg nI h20) h9)
  refine lv_iload hx hb dL_law_1324 (lv_at hl 1 rfl) ?_
  refine n_if_ne (tgt := 1341) hx hb (by omega) dL_law_1326 (by decide) (fun hz => ?_) (fun hz => ?_)
  · refine lv_goto (tgt := 1797) hx hb dL_law_1341 (by decide) ?_
    refine W.widen (k := cells + 4) (n := slots + 40) (by omega) (by omega) ?_
    exact next g2 ad _ _ _ hR2 hIv2 hK2 hW hS (lv_sub hl [2, 3, 4, 5, 6, 7] rfl)
  · refine lv_aload_n hx hb dL_law_1329 rfl (lv_at hl 4 rfl) ?_
    refine lv_iconst (v := nI 0) hx hb dL_law_1330 (by decide) ?_
    refine r_lld M hW dL_law_1331 ?_
    refine lv_iload hx hb dL_law_1332 (lv_at hl 0 rfl) ?_
    refine lv_i2l hx hb dL_law_1334 (hv hz).symm ?_
    refine W.lcmp hx hb dL_law_1335 ?_
    refine W.eq (g2 := F0 m 1336 ls [.int (nI 0)]) (congrArg (fun z => F0 m 1336 ls [.int z]) (lcz _)) ?_
    refine n_if_eq (tgt := 1341) hx hb (by decide) dL_law_1336 (by decide) (fun _ => ?_) (fun h9 => absurd rfl h9)
    refine lv_goto (tgt := 1797) hx hb dL_law_1341 (by decide) ?_
    refine W.widen (k := cells + 4) (n := slots + 40) (by omega) (by omega) ?_
    exact next g2 ad _ _ _ hR2 hIv2 hK2 hW hS (lv_sub hl [2, 3, 4, 5, 6, 7] rfl)
