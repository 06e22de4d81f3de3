/-! THE LAW'S CASES, 7 to 13. -/
set_option maxHeartbeats 4000000 in
set_option maxRecDepth 100000 in
theorem lc_counter {p : Program} {l : Launch} {e : Env} {s : State} {m : MethodId} {below : List Frame} {meth : Method} {c : Code} (hfl : l.stackTraces = false) {b L : Nat} {xs : Nat → Int32} {D : va_G} {Z : Nat → Nat} {N0 : Nat} {Q : State → Prop} (M : Mx p m c cL_law 9 s #[Value.ref b] wsL_law RL D Z N0) (hX : va_X b L xs s s.heap) (hbl : b < s.heap.size) (hbA : ¬ AA N0 b) (hL : L ≤ 2560) {k : Nat} (hk : 5 * k + 5 ≤ L) {g : T3} {ad : T2} {H : Heap} {locs : List Loc} {ls : Array Slot} {cells slots : Nat} (hc9 : cells + 4 ≤ 603072) (hs9 : slots + 40 ≤ 7219305) (hR : Rel g) (hIv : Iv g) (hK : Kv g) (hW : Wd D Z N0 g ad H) (hS : va_S (AA N0) s.heap H locs) (hl : lv_has ls 9 (lvL b ad k)) (next : LN p l e s m b below meth c D Z N0 Q k cells slots) : W p l e room_1 s m #[Value.ref b] below meth c H locs cells slots Q (F0 m 706 ls []) := by
  have hx := M.1.1
  have hb := M.1.2.1
  have hts := M.1.2.2.2.2
  have hO := hW.2.2.1
  have hl : lv_has ls 9 [(5, .int (nI (5 * k))), (4, .ref (ad 41 0)), (3, .ref (ad 40 0)), (2, .ref (ad 20 0)), (1, .ref (ad 0 0)), (0, .ref b)] := hl
  refine lv_aload_n hx hb dL_law_706 rfl (lv_at hl 4 rfl) ?_
  refine lv_aload_n hx hb dL_law_707 rfl (lv_at hl 5 rfl) ?_
  refine lv_iload hx hb dL_law_708 (lv_at hl 0 rfl) ?_
  refine lv_iconst (v := nI 1) hx hb dL_law_710 (by decide) ?_
  refine n_iadd hx hb dL_law_711 ?_
  refine r_sld M hX hbl hbA hS (by omega) (by omega) dL_law_712 ?_
  refine lv_aload_n hx hb dL_law_713 rfl (lv_at hl 2 rfl) ?_
  refine k_ci (vx_runSW (As := [.ref (ad 0 0), .int (xs (5 * k + 1)), .ref (ad 40 0)]) (rest := []) M.1 (c_L_counter l hfl D Z N0 g ad (xs (5 * k + 1))) (vx_cwSW 3 hts gL_law_L_counter rfl rfl rfl (by decide +kernel) ⟨(Nat.le_of_ble_eq_true rfl), (Nat.le_of_ble_eq_true rfl)⟩) (k_pS M hW hS) rfl rfl hl.1 rfl (lv_room (Nat.le_of_ble_eq_true rfl)) dL_law_714 ⟨(show cells + 1 ≤ 603072 by omega), (show slots + 6 ≤ 7219305 by omega)⟩) hS (fun r1 g1 H locs hp hW hS => ?_)
  obtain ⟨hf1, h1⟩ := hp
  refine lv_istore (lv' := [(6, .int (r1)), (5, .int (nI (5 * k))), (4, .ref (ad 41 0)), (3, .ref (ad 40 0)), (2, .ref (ad 20 0)), (1, .ref (ad 0 0)), (0, .ref b)]) hx hb dL_law_717 hl (by decide) rfl (fun ls hl => ?_)
  refine lv_aload_n hx hb dL_law_719 rfl (lv_at hl 4 rfl) ?_
  refine lv_aload_n hx hb dL_law_720 rfl (lv_at hl 6 rfl) ?_
  refine lv_iload hx hb dL_law_721 (lv_at hl 1 rfl) ?_
  refine lv_iconst (v := nI 1) hx hb dL_law_723 (by decide) ?_
  refine n_iadd hx hb dL_law_724 ?_
  refine r_sld M hX hbl hbA hS (by omega) (by omega) dL_law_725 ?_
  refine k_ci (k_rV (As := [.int (xs (5 * k + 1))]) (rest := []) M hW hS (c_X5_counter l D Z N0 g1 ad (xs (5 * k + 1))) (cwV 1 hts gL_law_X5_counter rfl rfl rfl (by decide +kernel) ⟨(Nat.le_of_ble_eq_true rfl), (Nat.le_of_ble_eq_true rfl)⟩) (r_recv M.2 hW 20 0 (lvM _) rfl rfl) rfl hl.1 rfl (Nat.le_of_ble_eq_true rfl) dL_law_726 ⟨(show (cells + 1) + 0 ≤ 603072 by omega), (show (slots + 6) + 0 ≤ 7219305 by omega)⟩) hS (fun r2 g2 H locs hp hW hS => ?_)
  obtain ⟨hf2, h2⟩ := hp
  have st9 := st_counter (y := 0) (z := 0) (u := 0) (b := 0) hR hK hO h1 h2
  obtain ⟨kk, hk3, rfl, h20, hv, hR2, hK2⟩ := st9
  have hIv2 : Iv g2 := hIv.fr (hf1.trans hf2)
  refine lv_istore (lv' := [(7, .int (r2)), (6, .int (nI (kk))), (5, .int (nI (5 * k))), (4, .ref (ad 41 0)), (3, .ref (ad 40 0)), (2, .ref (ad 20 0)), (1, .ref (ad 0 0)), (0, .ref b)]) hx hb dL_law_729 hl (by decide) rfl (fun ls hl => ?_)
  refine lv_aload_n hx hb dL_law_731 rfl (lv_at hl 5 rfl) ?_
  refine k_ci (k_rV (As := []) (rest := []) M hW hS (c_X5_thrown l D Z N0 g2 ad) (cwV 0 hts gL_law_X5_thrown rfl rfl rfl (by decide +kernel) ⟨(Nat.le_of_ble_eq_true rfl), (Nat.le_of_ble_eq_true rfl)⟩) (r_recv M.2 hW 20 0 (lvM _) rfl rfl) rfl hl.1 rfl (Nat.le_of_ble_eq_true rfl) dL_law_732 ⟨(show ((cells + 1) + 0) + 0 ≤ 603072 by omega), (show ((slots + 6) + 0) + 0 ≤ 7219305 by omega)⟩) hS (fun r3 g3 H locs hp hW hS => ?_)
  obtain ⟨-, rfl, rfl⟩ := hp
  refine lv_iload hx hb dL_law_735 (lv_at hl 1 rfl) ?_
  refine lv_icmp_eq (tgt := 742) hx hb dL_law_737 (by decide) (fun _ => ?_) (fun h9 => absurd (congrArg nI h20) h9)
  refine lv_iload hx hb dL_law_742 (lv_at hl 1 rfl) ?_
  refine n_if_ne (tgt := 759) hx hb (by omega) dL_law_744 (by decide) (fun hz => ?_) (fun hz => ?_)
  · refine lv_goto (tgt := 1797) hx hb dL_law_759 (by decide) ?_
    refine W.widen (k := cells + 4) (n := slots + 40) (by omega) (by omega) ?_
    exact next g2 ad _ _ _ hR2 hIv2 hK2 hW hS (lv_sub hl [2, 3, 4, 5, 6, 7] rfl)
  · refine lv_aload_n hx hb dL_law_747 rfl (lv_at hl 4 rfl) ?_
    refine lv_iconst (v := nI 0) hx hb dL_law_748 (by decide) ?_
    refine r_lld M hW dL_law_749 ?_
    refine lv_iload hx hb dL_law_750 (lv_at hl 0 rfl) ?_
    refine lv_i2l hx hb dL_law_752 (hv hz).symm ?_
    refine W.lcmp hx hb dL_law_753 ?_
    refine W.eq (g2 := F0 m 754 ls [.int (nI 0)]) (congrArg (fun z => F0 m 754 ls [.int z]) (lcz _)) ?_
    refine n_if_eq (tgt := 759) hx hb (by decide) dL_law_754 (by decide) (fun _ => ?_) (fun h9 => absurd rfl h9)
    refine lv_goto (tgt := 1797) hx hb dL_law_759 (by decide) ?_
    refine W.widen (k := cells + 4) (n := slots + 40) (by omega) (by omega) ?_
    exact next g2 ad _ _ _ hR2 hIv2 hK2 hW hS (lv_sub hl [2, 3, 4, 5, 6, 7] rfl)

set_option maxHeartbeats 4000000 in
set_option maxRecDepth 100000 in
theorem lc_start {p : Program} {l : Launch} {e : Env} {s : State} {m : MethodId} {below : List Frame} {meth : Method} {c : Code} (hfl : l.stackTraces = false) {b L : Nat} {xs : Nat → Int32} {D : va_G} {Z : Nat → Nat} {N0 : Nat} {Q : State → Prop} (M : Mx p m c cL_law 9 s #[Value.ref b] wsL_law RL D Z N0) (hX : va_X b L xs s s.heap) (hbl : b < s.heap.size) (hbA : ¬ AA N0 b) (hL : L ≤ 2560) {k : Nat} (hk : 5 * k + 5 ≤ L) {g : T3} {ad : T2} {H : Heap} {locs : List Loc} {ls : Array Slot} {cells slots : Nat} (hc9 : cells + 4 ≤ 603072) (hs9 : slots + 40 ≤ 7219305) (hR : Rel g) (hIv : Iv g) (hK : Kv g) (hW : Wd D Z N0 g ad H) (hS : va_S (AA N0) s.heap H locs) (hl : lv_has ls 9 (lvL b ad k)) (next : LN p l e s m b below meth c D Z N0 Q k cells slots) : W p l e room_1 s m #[Value.ref b] below meth c H locs cells slots Q (F0 m 762 ls []) := by
  have hx := M.1.1
  have hb := M.1.2.1
  have hts := M.1.2.2.2.2
  have hO := hW.2.2.1
  have hl : lv_has ls 9 [(5, .int (nI (5 * k))), (4, .ref (ad 41 0)), (3, .ref (ad 40 0)), (2, .ref (ad 20 0)), (1, .ref (ad 0 0)), (0, .ref b)] := hl
  refine lv_aload_n hx hb dL_law_762 rfl (lv_at hl 4 rfl) ?_
  refine lv_aload_n hx hb dL_law_763 rfl (lv_at hl 2 rfl) ?_
  refine k_ci (vx_runSW (As := [.ref (ad 0 0), .ref (ad 40 0)]) (rest := []) M.1 (c_L_start l hfl D Z N0 g ad) (vx_cwSW 2 hts gL_law_L_start rfl rfl rfl (by decide +kernel) ⟨(Nat.le_of_ble_eq_true rfl), (Nat.le_of_ble_eq_true rfl)⟩) (k_pS M hW hS) rfl rfl hl.1 rfl (lv_room (Nat.le_of_ble_eq_true rfl)) dL_law_764 ⟨(show cells + 1 ≤ 603072 by omega), (show slots + 6 ≤ 7219305 by omega)⟩) hS (fun r1 g1 H locs hp hW hS => ?_)
  obtain ⟨hf1, h1⟩ := hp
  refine lv_istore (lv' := [(6, .int (r1)), (5, .int (nI (5 * k))), (4, .ref (ad 41 0)), (3, .ref (ad 40 0)), (2, .ref (ad 20 0)), (1, .ref (ad 0 0)), (0, .ref b)]) hx hb dL_law_767 hl (by decide) rfl (fun ls hl => ?_)
  refine lv_aload_n hx hb dL_law_769 rfl (lv_at hl 4 rfl) ?_
  refine k_ci (k_rV (As := []) (rest := []) M hW hS (c_X5_start l D Z N0 g1 ad) (cwV 0 hts gL_law_X5_start rfl rfl rfl (by decide +kernel) ⟨(Nat.le_of_ble_eq_true rfl), (Nat.le_of_ble_eq_true rfl)⟩) (r_recv M.2 hW 20 0 (lvM _) rfl rfl) rfl hl.1 rfl (Nat.le_of_ble_eq_true rfl) dL_law_770 ⟨(show (cells + 1) + 0 ≤ 603072 by omega), (show (slots + 6) + 0 ≤ 7219305 by omega)⟩) hS (fun r2 g2 H locs hp hW hS => ?_)
  obtain ⟨hf2, h2⟩ := hp
  have st9 := st_start (x := 0) (y := 0) (z := 0) (u := 0) (b := 0) hR hK hO hW.2.2.1 h1 h2
  obtain ⟨kk, bb, hk3, rfl, h20, hb9, rfl, hv, hR2, hK2⟩ := st9
  have hIv2 : Iv g2 := hIv.fr (hf1.trans hf2)
  refine lv_istore (lv' := [(7, .int (nI (bb))), (6, .int (nI (kk))), (5, .int (nI (5 * k))), (4, .ref (ad 41 0)), (3, .ref (ad 40 0)), (2, .ref (ad 20 0)), (1, .ref (ad 0 0)), (0, .ref b)]) hx hb dL_law_773 hl (by decide) rfl (fun ls hl => ?_)
  refine lv_aload_n hx hb dL_law_775 rfl (lv_at hl 5 rfl) ?_
  refine k_ci (k_rV (As := []) (rest := []) M hW hS (c_X5_thrown l D Z N0 g2 ad) (cwV 0 hts gL_law_X5_thrown rfl rfl rfl (by decide +kernel) ⟨(Nat.le_of_ble_eq_true rfl), (Nat.le_of_ble_eq_true rfl)⟩) (r_recv M.2 hW 20 0 (lvM _) rfl rfl) rfl hl.1 rfl (Nat.le_of_ble_eq_true rfl) dL_law_776 ⟨(show ((cells + 1) + 0) + 0 ≤ 603072 by omega), (show ((slots + 6) + 0) + 0 ≤ 7219305 by omega)⟩) hS (fun r3 g3 H locs hp hW hS => ?_)
  obtain ⟨-, rfl, rfl⟩ := hp
  refine lv_iload hx hb dL_law_779 (lv_at hl 1 rfl) ?_
  refine lv_icmp_eq (tgt := 786) hx hb dL_law_781 (by decide) (fun _ => ?_) (fun h9 => absurd (congrArg nI h20) h9)
  refine lv_iload hx hb dL_law_786 (lv_at hl 1 rfl) ?_
  refine n_if_ne (tgt := 810) hx hb (by omega) dL_law_788 (by decide) (fun hz => ?_) (fun hz => ?_)
  · refine lv_goto (tgt := 1797) hx hb dL_law_810 (by decide) ?_
    refine W.widen (k := cells + 4) (n := slots + 40) (by omega) (by omega) ?_
    exact next g2 ad _ _ _ hR2 hIv2 hK2 hW hS (lv_sub hl [2, 3, 4, 5, 6, 7] rfl)
  · refine lv_aload_n hx hb dL_law_791 rfl (lv_at hl 4 rfl) ?_
    refine lv_iconst (v := nI 0) hx hb dL_law_792 (by decide) ?_
    refine r_lld M hW dL_law_793 ?_
    refine lv_iload hx hb dL_law_794 (lv_at hl 0 rfl) ?_
    refine n_if_eq (tgt := 803) hx hb (by omega) dL_law_796 (by decide) (fun hb0 => ?_) (fun hb0 => ?_)
    · refine lv_lconst (v := lN 0) hx hb dL_law_803 rfl ?_
      refine W.lcmp hx hb dL_law_804 ?_
      refine W.eq (g2 := F0 m 805 ls [.int (nI 0)]) (congrArg (fun z => F0 m 805 ls [.int z]) (by rw [hv hz, hb0]; exact lcz _)) ?_
      refine n_if_eq (tgt := 810) hx hb (by decide) dL_law_805 (by decide) (fun _ => ?_) (fun h9 => absurd rfl h9)
      refine lv_goto (tgt := 1797) hx hb dL_law_810 (by decide) ?_
      refine W.widen (k := cells + 4) (n := slots + 40) (by omega) (by omega) ?_
      exact next g2 ad _ _ _ hR2 hIv2 hK2 hW hS (lv_sub hl [2, 3, 4, 5, 6, 7] rfl)
    · refine lv_lconst (v := lN 1) hx hb dL_law_799 rfl ?_
      refine lv_goto (tgt := 804) hx hb dL_law_800 (by decide) ?_
      refine W.lcmp hx hb dL_law_804 ?_
      refine W.eq (g2 := F0 m 805 ls [.int (nI 0)]) (congrArg (fun z => F0 m 805 ls [.int z]) (by rw [hv hz, show bb = 1 by omega]; exact lcz _)) ?_
      refine n_if_eq (tgt := 810) hx hb (by decide) dL_law_805 (by decide) (fun _ => ?_) (fun h9 => absurd rfl h9)
      refine lv_goto (tgt := 1797) hx hb dL_law_810 (by decide) ?_
      refine W.widen (k := cells + 4) (n := slots + 40) (by omega) (by omega) ?_
      exact next g2 ad _ _ _ hR2 hIv2 hK2 hW hS (lv_sub hl [2, 3, 4, 5, 6, 7] rfl)

set_option maxHeartbeats 4000000 in
set_option maxRecDepth 100000 in
theorem lc_stop {p : Program} {l : Launch} {e : Env} {s : State} {m : MethodId} {below : List Frame} {meth : Method} {c : Code} (hfl : l.stackTraces = false) {b L : Nat} {xs : Nat → Int32} {D : va_G} {Z : Nat → Nat} {N0 : Nat} {Q : State → Prop} (M : Mx p m c cL_law 9 s #[Value.ref b] wsL_law RL D Z N0) (hX : va_X b L xs s s.heap) (hbl : b < s.heap.size) (hbA : ¬ AA N0 b) (hL : L ≤ 2560) {k : Nat} (hk : 5 * k + 5 ≤ L) {g : T3} {ad : T2} {H : Heap} {locs : List Loc} {ls : Array Slot} {cells slots : Nat} (hc9 : cells + 4 ≤ 603072) (hs9 : slots + 40 ≤ 7219305) (hR : Rel g) (hIv : Iv g) (hK : Kv g) (hW : Wd D Z N0 g ad H) (hS : va_S (AA N0) s.heap H locs) (hl : lv_has ls 9 (lvL b ad k)) (next : LN p l e s m b below meth c D Z N0 Q k cells slots) : W p l e room_1 s m #[Value.ref b] below meth c H locs cells slots Q (F0 m 813 ls []) := by
  have hx := M.1.1
  have hb := M.1.2.1
  have hts := M.1.2.2.2.2
  have hO := hW.2.2.1
  have hl : lv_has ls 9 [(5, .int (nI (5 * k))), (4, .ref (ad 41 0)), (3, .ref (ad 40 0)), (2, .ref (ad 20 0)), (1, .ref (ad 0 0)), (0, .ref b)] := hl
  refine lv_aload_n hx hb dL_law_813 rfl (lv_at hl 4 rfl) ?_
  refine lv_aload_n hx hb dL_law_814 rfl (lv_at hl 2 rfl) ?_
  refine k_ci (vx_runSW (As := [.ref (ad 0 0), .ref (ad 40 0)]) (rest := []) M.1 (c_L_stop l hfl D Z N0 g ad) (vx_cwSW 2 hts gL_law_L_stop rfl rfl rfl (by decide +kernel) ⟨(Nat.le_of_ble_eq_true rfl), (Nat.le_of_ble_eq_true rfl)⟩) (k_pS M hW hS) rfl rfl hl.1 rfl (lv_room (Nat.le_of_ble_eq_true rfl)) dL_law_815 ⟨(show cells + 1 ≤ 603072 by omega), (show slots + 6 ≤ 7219305 by omega)⟩) hS (fun r1 g1 H locs hp hW hS => ?_)
  obtain ⟨hf1, h1⟩ := hp
  refine lv_istore (lv' := [(6, .int (r1)), (5, .int (nI (5 * k))), (4, .ref (ad 41 0)), (3, .ref (ad 40 0)), (2, .ref (ad 20 0)), (1, .ref (ad 0 0)), (0, .ref b)]) hx hb dL_law_818 hl (by decide) rfl (fun ls hl => ?_)
  refine lv_aload_n hx hb dL_law_820 rfl (lv_at hl 4 rfl) ?_
  refine k_ci (k_rV (As := []) (rest := []) M hW hS (c_X5_stop l D Z N0 g1 ad) (cwV 0 hts gL_law_X5_stop rfl rfl rfl (by decide +kernel) ⟨(Nat.le_of_ble_eq_true rfl), (Nat.le_of_ble_eq_true rfl)⟩) (r_recv M.2 hW 20 0 (lvM _) rfl rfl) rfl hl.1 rfl (Nat.le_of_ble_eq_true rfl) dL_law_821 ⟨(show (cells + 1) + 0 ≤ 603072 by omega), (show (slots + 6) + 0 ≤ 7219305 by omega)⟩) hS (fun r2 g2 H locs hp hW hS => ?_)
  obtain ⟨hf2, h2⟩ := hp
  have st9 := st_stop (x := 0) (y := 0) (z := 0) (u := 0) (b := 0) hR hK hO h1 h2
  obtain ⟨kk, hk3, rfl, h20, hv, hR2, hK2⟩ := st9
  have hIv2 : Iv g2 := hIv.fr (hf1.trans hf2)
  refine lv_istore (lv' := [(7, .int (r2)), (6, .int (nI (kk))), (5, .int (nI (5 * k))), (4, .ref (ad 41 0)), (3, .ref (ad 40 0)), (2, .ref (ad 20 0)), (1, .ref (ad 0 0)), (0, .ref b)]) hx hb dL_law_824 hl (by decide) rfl (fun ls hl => ?_)
  refine lv_aload_n hx hb dL_law_826 rfl (lv_at hl 5 rfl) ?_
  refine k_ci (k_rV (As := []) (rest := []) M hW hS (c_X5_thrown l D Z N0 g2 ad) (cwV 0 hts gL_law_X5_thrown rfl rfl rfl (by decide +kernel) ⟨(Nat.le_of_ble_eq_true rfl), (Nat.le_of_ble_eq_true rfl)⟩) (r_recv M.2 hW 20 0 (lvM _) rfl rfl) rfl hl.1 rfl (Nat.le_of_ble_eq_true rfl) dL_law_827 ⟨(show ((cells + 1) + 0) + 0 ≤ 603072 by omega), (show ((slots + 6) + 0) + 0 ≤ 7219305 by omega)⟩) hS (fun r3 g3 H locs hp hW hS => ?_)
  obtain ⟨-, rfl, rfl⟩ := hp
  refine lv_iload hx hb dL_law_830 (lv_at hl 1 rfl) ?_
  refine lv_icmp_eq (tgt := 837) hx hb dL_law_832 (by decide) (fun _ => ?_) (fun h9 => absurd (congrArg nI h20) h9)
  refine lv_iload hx hb dL_law_837 (lv_at hl 1 rfl) ?_
  refine n_if_ne (tgt := 854) hx hb (by omega) dL_law_839 (by decide) (fun hz => ?_) (fun hz => ?_)
  · refine lv_goto (tgt := 1797) hx hb dL_law_854 (by decide) ?_
    refine W.widen (k := cells + 4) (n := slots + 40) (by omega) (by omega) ?_
    exact next g2 ad _ _ _ hR2 hIv2 hK2 hW hS (lv_sub hl [2, 3, 4, 5, 6, 7] rfl)
  · refine lv_aload_n hx hb dL_law_842 rfl (lv_at hl 4 rfl) ?_
    refine lv_iconst (v := nI 0) hx hb dL_law_843 (by decide) ?_
    refine r_lld M hW dL_law_844 ?_
    refine lv_iload hx hb dL_law_845 (lv_at hl 0 rfl) ?_
    refine lv_i2l hx hb dL_law_847 (hv hz).symm ?_
    refine W.lcmp hx hb dL_law_848 ?_
    refine W.eq (g2 := F0 m 849 ls [.int (nI 0)]) (congrArg (fun z => F0 m 849 ls [.int z]) (lcz _)) ?_
    refine n_if_eq (tgt := 854) hx hb (by decide) dL_law_849 (by decide) (fun _ => ?_) (fun h9 => absurd rfl h9)
    refine lv_goto (tgt := 1797) hx hb dL_law_854 (by decide) ?_
    refine W.widen (k := cells + 4) (n := slots + 40) (by omega) (by omega) ?_
    exact next g2 ad _ _ _ hR2 hIv2 hK2 hW hS (lv_sub hl [2, 3, 4, 5, 6, 7] rfl)

set_option maxHeartbeats 4000000 in
set_option maxRecDepth 100000 in
theorem lc_commit {p : Program} {l : Launch} {e : Env} {s : State} {m : MethodId} {below : List Frame} {meth : Method} {c : Code} (hfl : l.stackTraces = false) {b L : Nat} {xs : Nat → Int32} {D : va_G} {Z : Nat → Nat} {N0 : Nat} {Q : State → Prop} (M : Mx p m c cL_law 9 s #[Value.ref b] wsL_law RL D Z N0) (hX : va_X b L xs s s.heap) (hbl : b < s.heap.size) (hbA : ¬ AA N0 b) (hL : L ≤ 2560) {k : Nat} (hk : 5 * k + 5 ≤ L) {g : T3} {ad : T2} {H : Heap} {locs : List Loc} {ls : Array Slot} {cells slots : Nat} (hc9 : cells + 4 ≤ 603072) (hs9 : slots + 40 ≤ 7219305) (hR : Rel g) (hIv : Iv g) (hK : Kv g) (hW : Wd D Z N0 g ad H) (hS : va_S (AA N0) s.heap H locs) (hl : lv_has ls 9 (lvL b ad k)) (next : LN p l e s m b below meth c D Z N0 Q k cells slots) : W p l e room_1 s m #[Value.ref b] below meth c H locs cells slots Q (F0 m 857 ls []) := by
  have hx := M.1.1
  have hb := M.1.2.1
  have hts := M.1.2.2.2.2
  have hO := hW.2.2.1
  have hl : lv_has ls 9 [(5, .int (nI (5 * k))), (4, .ref (ad 41 0)), (3, .ref (ad 40 0)), (2, .ref (ad 20 0)), (1, .ref (ad 0 0)), (0, .ref b)] := hl
  refine lv_aload_n hx hb dL_law_857 rfl (lv_at hl 4 rfl) ?_
  refine lv_aload_n hx hb dL_law_858 rfl (lv_at hl 2 rfl) ?_
  refine k_ci (vx_runSW (As := [.ref (ad 0 0), .ref (ad 40 0)]) (rest := []) M.1 (c_L_commit l hfl D Z N0 g ad) (vx_cwSW 2 hts gL_law_L_commit rfl rfl rfl (by decide +kernel) ⟨(Nat.le_of_ble_eq_true rfl), (Nat.le_of_ble_eq_true rfl)⟩) (k_pS M hW hS) rfl rfl hl.1 rfl (lv_room (Nat.le_of_ble_eq_true rfl)) dL_law_859 ⟨(show cells + 1 ≤ 603072 by omega), (show slots + 6 ≤ 7219305 by omega)⟩) hS (fun r1 g1 H locs hp hW hS => ?_)
  obtain ⟨hf1, h1⟩ := hp
  refine lv_istore (lv' := [(6, .int (r1)), (5, .int (nI (5 * k))), (4, .ref (ad 41 0)), (3, .ref (ad 40 0)), (2, .ref (ad 20 0)), (1, .ref (ad 0 0)), (0, .ref b)]) hx hb dL_law_862 hl (by decide) rfl (fun ls hl => ?_)
  refine lv_aload_n hx hb dL_law_864 rfl (lv_at hl 4 rfl) ?_
  refine k_ci (k_rV (As := []) (rest := []) M hW hS (c_X5_commit l D Z N0 g1 ad) (cwV 0 hts gL_law_X5_commit rfl rfl rfl (by decide +kernel) ⟨(Nat.le_of_ble_eq_true rfl), (Nat.le_of_ble_eq_true rfl)⟩) (r_recv M.2 hW 20 0 (lvM _) rfl rfl) rfl hl.1 rfl (Nat.le_of_ble_eq_true rfl) dL_law_865 ⟨(show (cells + 1) + 0 ≤ 603072 by omega), (show (slots + 6) + 0 ≤ 7219305 by omega)⟩) hS (fun r2 g2 H locs hp hW hS => ?_)
  obtain ⟨hf2, h2⟩ := hp
  have st9 := st_commit (x := 0) (y := 0) (z := 0) (u := 0) (b := 0) hR hK hO h1 h2
  obtain ⟨kk, hk3, rfl, h20, hv, hR2, hK2⟩ := st9
  have hIv2 : Iv g2 := hIv.fr (hf1.trans hf2)
  refine lv_istore (lv' := [(7, .int (r2)), (6, .int (nI (kk))), (5, .int (nI (5 * k))), (4, .ref (ad 41 0)), (3, .ref (ad 40 0)), (2, .ref (ad 20 0)), (1, .ref (ad 0 0)), (0, .ref b)]) hx hb dL_law_868 hl (by decide) rfl (fun ls hl => ?_)
  refine lv_aload_n hx hb dL_law_870 rfl (lv_at hl 5 rfl) ?_
  refine k_ci (k_rV (As := []) (rest := []) M hW hS (c_X5_thrown l D Z N0 g2 ad) (cwV 0 hts gL_law_X5_thrown rfl rfl rfl (by decide +kernel) ⟨(Nat.le_of_ble_eq_true rfl), (Nat.le_of_ble_eq_true rfl)⟩) (r_recv M.2 hW 20 0 (lvM _) rfl rfl) rfl hl.1 rfl (Nat.le_of_ble_eq_true rfl) dL_law_871 ⟨(show ((cells + 1) + 0) + 0 ≤ 603072 by omega), (show ((slots + 6) + 0) + 0 ≤ 7219305 by omega)⟩) hS (fun r3 g3 H locs hp hW hS => ?_)
  obtain ⟨-, rfl, rfl⟩ := hp
  refine lv_iload hx hb dL_law_874 (lv_at hl 1 rfl) ?_
  refine lv_icmp_eq (tgt := 881) hx hb dL_law_876 (by decide) (fun _ => ?_) (fun h9 => absurd (congrArg nI h20) h9)
  refine lv_iload hx hb dL_law_881 (lv_at hl 1 rfl) ?_
  refine n_if_ne (tgt := 898) hx hb (by omega) dL_law_883 (by decide) (fun hz => ?_) (fun hz => ?_)
  · refine lv_goto (tgt := 1797) hx hb dL_law_898 (by decide) ?_
    refine W.widen (k := cells + 4) (n := slots + 40) (by omega) (by omega) ?_
    exact next g2 ad _ _ _ hR2 hIv2 hK2 hW hS (lv_sub hl [2, 3, 4, 5, 6, 7] rfl)
  · refine lv_aload_n hx hb dL_law_886 rfl (lv_at hl 4 rfl) ?_
    refine lv_iconst (v := nI 0) hx hb dL_law_887 (by decide) ?_
    refine r_lld M hW dL_law_888 ?_
    refine lv_iload hx hb dL_law_889 (lv_at hl 0 rfl) ?_
    refine lv_i2l hx hb dL_law_891 (hv hz).symm ?_
    refine W.lcmp hx hb dL_law_892 ?_
    refine W.eq (g2 := F0 m 893 ls [.int (nI 0)]) (congrArg (fun z => F0 m 893 ls [.int z]) (lcz _)) ?_
    refine n_if_eq (tgt := 898) hx hb (by decide) dL_law_893 (by decide) (fun _ => ?_) (fun h9 => absurd rfl h9)
    refine lv_goto (tgt := 1797) hx hb dL_law_898 (by decide) ?_
    refine W.widen (k := cells + 4) (n := slots + 40) (by omega) (by omega) ?_
    exact next g2 ad _ _ _ hR2 hIv2 hK2 hW hS (lv_sub hl [2, 3, 4, 5, 6, 7] rfl)

set_option maxHeartbeats 4000000 in
set_option maxRecDepth 100000 in
theorem lc_state {p : Program} {l : Launch} {e : Env} {s : State} {m : MethodId} {below : List Frame} {meth : Method} {c : Code} (hfl : l.stackTraces = false) {b L : Nat} {xs : Nat → Int32} {D : va_G} {Z : Nat → Nat} {N0 : Nat} {Q : State → Prop} (M : Mx p m c cL_law 9 s #[Value.ref b] wsL_law RL D Z N0) (hX : va_X b L xs s s.heap) (hbl : b < s.heap.size) (hbA : ¬ AA N0 b) (hL : L ≤ 2560) {k : Nat} (hk : 5 * k + 5 ≤ L) {g : T3} {ad : T2} {H : Heap} {locs : List Loc} {ls : Array Slot} {cells slots : Nat} (hc9 : cells + 4 ≤ 603072) (hs9 : slots + 40 ≤ 7219305) (hR : Rel g) (hIv : Iv g) (hK : Kv g) (hW : Wd D Z N0 g ad H) (hS : va_S (AA N0) s.heap H locs) (hl : lv_has ls 9 (lvL b ad k)) (next : LN p l e s m b below meth c D Z N0 Q k cells slots) : W p l e room_1 s m #[Value.ref b] below meth c H locs cells slots Q (F0 m 901 ls []) := by
  have hx := M.1.1
  have hb := M.1.2.1
  have hts := M.1.2.2.2.2
  have hO := hW.2.2.1
  have hl : lv_has ls 9 [(5, .int (nI (5 * k))), (4, .ref (ad 41 0)), (3, .ref (ad 40 0)), (2, .ref (ad 20 0)), (1, .ref (ad 0 0)), (0, .ref b)] := hl
  refine lv_aload_n hx hb dL_law_901 rfl (lv_at hl 4 rfl) ?_
  refine k_ci (k_rV (As := []) (rest := []) M hW hS (c_X4_state l D Z N0 g ad) (cwV 0 hts gL_law_X4_state rfl rfl rfl (by decide +kernel) ⟨(Nat.le_of_ble_eq_true rfl), (Nat.le_of_ble_eq_true rfl)⟩) (r_recv M.2 hW 0 0 (lv0 _) rfl rfl) rfl hl.1 rfl (Nat.le_of_ble_eq_true rfl) dL_law_902 ⟨(show cells + 0 ≤ 603072 by omega), (show slots + 0 ≤ 7219305 by omega)⟩) hS (fun r1 g1 H locs hp hW hS => ?_)
  obtain ⟨hf1, rfl, rfl⟩ := hp
  refine lv_aload_n hx hb dL_law_905 rfl (lv_at hl 3 rfl) ?_
  refine k_ci (k_rV (As := []) (rest := [.int (nI (g 0 0 6))]) M hW hS (c_X5_state l D Z N0 g ad) (cwV 0 hts gL_law_X5_state rfl rfl rfl (by decide +kernel) ⟨(Nat.le_of_ble_eq_true rfl), (Nat.le_of_ble_eq_true rfl)⟩) (r_recv M.2 hW 20 0 (lvM _) rfl rfl) rfl hl.1 rfl (Nat.le_of_ble_eq_true rfl) dL_law_906 ⟨(show (cells + 0) + 0 ≤ 603072 by omega), (show (slots + 0) + 0 ≤ 7219305 by omega)⟩) hS (fun r2 g2 H locs hp hW hS => ?_)
  obtain ⟨hf2, rfl, rfl⟩ := hp
  refine lv_icmp_eq (tgt := 1797) hx hb dL_law_909 (by decide) (fun _ => ?_) (fun h9 => absurd (congrArg nI (hR.2.2.2.2.2.1)) h9)
  refine W.widen (k := cells + 4) (n := slots + 40) (by omega) (by omega) ?_
  exact next (up g 20 0 20 0) ad _ _ _ (Rel_th hR 0) (hIv.fr ((Fr.rf _).up rfl)) hK hW hS (lv_sub hl [0, 1, 2, 3, 4, 5] rfl)

set_option maxHeartbeats 4000000 in
set_option maxRecDepth 100000 in
theorem lc_runsFrom {p : Program} {l : Launch} {e : Env} {s : State} {m : MethodId} {below : List Frame} {meth : Method} {c : Code} (hfl : l.stackTraces = false) {b L : Nat} {xs : Nat → Int32} {D : va_G} {Z : Nat → Nat} {N0 : Nat} {Q : State → Prop} (M : Mx p m c cL_law 9 s #[Value.ref b] wsL_law RL D Z N0) (hX : va_X b L xs s s.heap) (hbl : b < s.heap.size) (hbA : ¬ AA N0 b) (hL : L ≤ 2560) {k : Nat} (hk : 5 * k + 5 ≤ L) {g : T3} {ad : T2} {H : Heap} {locs : List Loc} {ls : Array Slot} {cells slots : Nat} (hc9 : cells + 4 ≤ 603072) (hs9 : slots + 40 ≤ 7219305) (hR : Rel g) (hIv : Iv g) (hK : Kv g) (hW : Wd D Z N0 g ad H) (hS : va_S (AA N0) s.heap H locs) (hl : lv_has ls 9 (lvL b ad k)) (next : LN p l e s m b below meth c D Z N0 Q k cells slots) : W p l e room_1 s m #[Value.ref b] below meth c H locs cells slots Q (F0 m 914 ls []) := by
  have hx := M.1.1
  have hb := M.1.2.1
  have hts := M.1.2.2.2.2
  have hO := hW.2.2.1
  have hl : lv_has ls 9 [(5, .int (nI (5 * k))), (4, .ref (ad 41 0)), (3, .ref (ad 40 0)), (2, .ref (ad 20 0)), (1, .ref (ad 0 0)), (0, .ref b)] := hl
  refine lv_aload_n hx hb dL_law_914 rfl (lv_at hl 4 rfl) ?_
  refine lv_aload_n hx hb dL_law_915 rfl (lv_at hl 5 rfl) ?_
  refine lv_iload hx hb dL_law_916 (lv_at hl 0 rfl) ?_
  refine lv_iconst (v := nI 1) hx hb dL_law_918 (by decide) ?_
  refine n_iadd hx hb dL_law_919 ?_
  refine r_sld M hX hbl hbA hS (by omega) (by omega) dL_law_920 ?_
  refine lv_aload_n hx hb dL_law_921 rfl (lv_at hl 2 rfl) ?_
  refine k_ci (vx_runSW (As := [.ref (ad 0 0), .int (xs (5 * k + 1)), .ref (ad 40 0)]) (rest := []) M.1 (c_L_runsFrom l hfl D Z N0 g ad (xs (5 * k + 1))) (vx_cwSW 3 hts gL_law_L_runsFrom rfl rfl rfl (by decide +kernel) ⟨(Nat.le_of_ble_eq_true rfl), (Nat.le_of_ble_eq_true rfl)⟩) (k_pS M hW hS) rfl rfl hl.1 rfl (lv_room (Nat.le_of_ble_eq_true rfl)) dL_law_922 ⟨(show cells + 1 ≤ 603072 by omega), (show slots + 6 ≤ 7219305 by omega)⟩) hS (fun r1 g1 H locs hp hW hS => ?_)
  obtain ⟨hf1, h1⟩ := hp
  refine lv_istore (lv' := [(6, .int (r1)), (5, .int (nI (5 * k))), (4, .ref (ad 41 0)), (3, .ref (ad 40 0)), (2, .ref (ad 20 0)), (1, .ref (ad 0 0)), (0, .ref b)]) hx hb dL_law_925 hl (by decide) rfl (fun ls hl => ?_)
  refine lv_aload_n hx hb dL_law_927 rfl (lv_at hl 4 rfl) ?_
  refine lv_aload_n hx hb dL_law_928 rfl (lv_at hl 6 rfl) ?_
  refine lv_iload hx hb dL_law_929 (lv_at hl 1 rfl) ?_
  refine lv_iconst (v := nI 1) hx hb dL_law_931 (by decide) ?_
  refine n_iadd hx hb dL_law_932 ?_
  refine r_sld M hX hbl hbA hS (by omega) (by omega) dL_law_933 ?_
  refine k_ci (k_rV (As := [.int (xs (5 * k + 1))]) (rest := []) M hW hS (c_X5_runsFrom l D Z N0 g1 ad (xs (5 * k + 1))) (cwV 1 hts gL_law_X5_runsFrom rfl rfl rfl (by decide +kernel) ⟨(Nat.le_of_ble_eq_true rfl), (Nat.le_of_ble_eq_true rfl)⟩) (r_recv M.2 hW 20 0 (lvM _) rfl rfl) rfl hl.1 rfl (Nat.le_of_ble_eq_true rfl) dL_law_934 ⟨(show (cells + 1) + 0 ≤ 603072 by omega), (show (slots + 6) + 0 ≤ 7219305 by omega)⟩) hS (fun r2 g2 H locs hp hW hS => ?_)
  obtain ⟨hf2, h2⟩ := hp
  have st9 := st_runsFrom (y := 0) (z := 0) (u := 0) (b := 0) hR hK hO h1 h2
  obtain ⟨kk, hk3, rfl, h20, hv, hR2, hK2⟩ := st9
  have hIv2 : Iv g2 := hIv.fr (hf1.trans hf2)
  refine lv_istore (lv' := [(7, .int (r2)), (6, .int (nI (kk))), (5, .int (nI (5 * k))), (4, .ref (ad 41 0)), (3, .ref (ad 40 0)), (2, .ref (ad 20 0)), (1, .ref (ad 0 0)), (0, .ref b)]) hx hb dL_law_937 hl (by decide) rfl (fun ls hl => ?_)
  refine lv_aload_n hx hb dL_law_939 rfl (lv_at hl 5 rfl) ?_
  refine k_ci (k_rV (As := []) (rest := []) M hW hS (c_X5_thrown l D Z N0 g2 ad) (cwV 0 hts gL_law_X5_thrown rfl rfl rfl (by decide +kernel) ⟨(Nat.le_of_ble_eq_true rfl), (Nat.le_of_ble_eq_true rfl)⟩) (r_recv M.2 hW 20 0 (lvM _) rfl rfl) rfl hl.1 rfl (Nat.le_of_ble_eq_true rfl) dL_law_940 ⟨(show ((cells + 1) + 0) + 0 ≤ 603072 by omega), (show ((slots + 6) + 0) + 0 ≤ 7219305 by omega)⟩) hS (fun r3 g3 H locs hp hW hS => ?_)
  obtain ⟨-, rfl, rfl⟩ := hp
  refine lv_iload hx hb dL_law_943 (lv_at hl 1 rfl) ?_
  refine lv_icmp_eq (tgt := 950) hx hb dL_law_945 (by decide) (fun _ => ?_) (fun h9 => absurd (congrArg nI h20) h9)
  refine lv_iload hx hb dL_law_950 (lv_at hl 1 rfl) ?_
  refine n_if_ne (tgt := 967) hx hb (by omega) dL_law_952 (by decide) (fun hz => ?_) (fun hz => ?_)
  · refine lv_goto (tgt := 1797) hx hb dL_law_967 (by decide) ?_
    refine W.widen (k := cells + 4) (n := slots + 40) (by omega) (by omega) ?_
    exact next g2 ad _ _ _ hR2 hIv2 hK2 hW hS (lv_sub hl [2, 3, 4, 5, 6, 7] rfl)
  · refine lv_aload_n hx hb dL_law_955 rfl (lv_at hl 4 rfl) ?_
    refine lv_iconst (v := nI 0) hx hb dL_law_956 (by decide) ?_
    refine r_lld M hW dL_law_957 ?_
    refine lv_iload hx hb dL_law_958 (lv_at hl 0 rfl) ?_
    refine lv_i2l hx hb dL_law_960 (hv hz).symm ?_
    refine W.lcmp hx hb dL_law_961 ?_
    refine W.eq (g2 := F0 m 962 ls [.int (nI 0)]) (congrArg (fun z => F0 m 962 ls [.int z]) (lcz _)) ?_
    refine n_if_eq (tgt := 967) hx hb (by decide) dL_law_962 (by decide) (fun _ => ?_) (fun h9 => absurd rfl h9)
    refine lv_goto (tgt := 1797) hx hb dL_law_967 (by decide) ?_
    refine W.widen (k := cells + 4) (n := slots + 40) (by omega) (by omega) ?_
    exact next g2 ad _ _ _ hR2 hIv2 hK2 hW hS (lv_sub hl [2, 3, 4, 5, 6, 7] rfl)

set_option maxHeartbeats 4000000 in
set_option maxRecDepth 100000 in
theorem lc_fallbacks {p : Program} {l : Launch} {e : Env} {s : State} {m : MethodId} {below : List Frame} {meth : Method} {c : Code} (hfl : l.stackTraces = false) {b L : Nat} {xs : Nat → Int32} {D : va_G} {Z : Nat → Nat} {N0 : Nat} {Q : State → Prop} (M : Mx p m c cL_law 9 s #[Value.ref b] wsL_law RL D Z N0) (hX : va_X b L xs s s.heap) (hbl : b < s.heap.size) (hbA : ¬ AA N0 b) (hL : L ≤ 2560) {k : Nat} (hk : 5 * k + 5 ≤ L) {g : T3} {ad : T2} {H : Heap} {locs : List Loc} {ls : Array Slot} {cells slots : Nat} (hc9 : cells + 4 ≤ 603072) (hs9 : slots + 40 ≤ 7219305) (hR : Rel g) (hIv : Iv g) (hK : Kv g) (hW : Wd D Z N0 g ad H) (hS : va_S (AA N0) s.heap H locs) (hl : lv_has ls 9 (lvL b ad k)) (next : LN p l e s m b below meth c D Z N0 Q k cells slots) : W p l e room_1 s m #[Value.ref b] below meth c H locs cells slots Q (F0 m 970 ls []) := by
  have hx := M.1.1
  have hb := M.1.2.1
  have hts := M.1.2.2.2.2
  have hO := hW.2.2.1
  have hl : lv_has ls 9 [(5, .int (nI (5 * k))), (4, .ref (ad 41 0)), (3, .ref (ad 40 0)), (2, .ref (ad 20 0)), (1, .ref (ad 0 0)), (0, .ref b)] := hl
  refine lv_aload_n hx hb dL_law_970 rfl (lv_at hl 4 rfl) ?_
  refine k_ci (k_rV (As := []) (rest := []) M hW hS (c_X4_fallbacks l D Z N0 g ad) (cwV 0 hts gL_law_X4_fallbacks rfl rfl rfl (by decide +kernel) ⟨(Nat.le_of_ble_eq_true rfl), (Nat.le_of_ble_eq_true rfl)⟩) (r_recv M.2 hW 0 0 (lv0 _) rfl rfl) rfl hl.1 rfl (Nat.le_of_ble_eq_true rfl) dL_law_971 ⟨(show cells + 0 ≤ 603072 by omega), (show slots + 0 ≤ 7219305 by omega)⟩) hS (fun r1 g1 H locs hp hW hS => ?_)
  obtain ⟨hf1, rfl, rfl⟩ := hp
  refine lv_aload_n hx hb dL_law_974 rfl (lv_at hl 3 rfl) ?_
  refine k_ci (k_rV (As := []) (rest := [.int (nI (g 0 0 7))]) M hW hS (c_X5_fallbacks l D Z N0 g ad) (cwV 0 hts gL_law_X5_fallbacks rfl rfl rfl (by decide +kernel) ⟨(Nat.le_of_ble_eq_true rfl), (Nat.le_of_ble_eq_true rfl)⟩) (r_recv M.2 hW 20 0 (lvM _) rfl rfl) rfl hl.1 rfl (Nat.le_of_ble_eq_true rfl) dL_law_975 ⟨(show (cells + 0) + 0 ≤ 603072 by omega), (show (slots + 0) + 0 ≤ 7219305 by omega)⟩) hS (fun r2 g2 H locs hp hW hS => ?_)
  obtain ⟨hf2, rfl, rfl⟩ := hp
  refine lv_icmp_eq (tgt := 1797) hx hb dL_law_978 (by decide) (fun _ => ?_) (fun h9 => absurd (congrArg nI (hR.2.2.2.2.2.2.2)) h9)
  refine W.widen (k := cells + 4) (n := slots + 40) (by omega) (by omega) ?_
  exact next (up g 20 0 20 0) ad _ _ _ (Rel_th hR 0) (hIv.fr ((Fr.rf _).up rfl)) hK hW hS (lv_sub hl [0, 1, 2, 3, 4, 5] rfl)
