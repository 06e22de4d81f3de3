/-! THE LAW'S CASES, 0 to 6. -/
set_option maxHeartbeats 4000000 in
set_option maxRecDepth 100000 in
theorem lc_setTrusted {p : Program} {l : Launch} {e : Env} {s : State} {m : MethodId} {below : List Frame} {meth : Method} {c : Code} (hfl : l.stackTraces = false) {b L : Nat} {xs : Nat → Int32} {D : va_G} {Z : Nat → Nat} {N0 : Nat} {Q : State → Prop} (M : Mx p m c cL_law 9 s #[Value.ref b] wsL_law RL D Z N0) (hX : va_X b L xs s s.heap) (hbl : b < s.heap.size) (hbA : ¬ AA N0 b) (hL : L ≤ 2560) {k : Nat} (hk : 5 * k + 5 ≤ L) {g : T3} {ad : T2} {H : Heap} {locs : List Loc} {ls : Array Slot} {cells slots : Nat} (hc9 : cells + 4 ≤ 603072) (hs9 : slots + 40 ≤ 7219305) (hR : Rel g) (hIv : Iv g) (hK : Kv g) (hW : Wd D Z N0 g ad H) (hS : va_S (AA N0) s.heap H locs) (hl : lv_has ls 9 (lvL b ad k)) (next : LN p l e s m b below meth c D Z N0 Q k cells slots) : W p l e room_1 s m #[Value.ref b] below meth c H locs cells slots Q (F0 m 172 ls []) := by
  have hx := M.1.1
  have hb := M.1.2.1
  have hts := M.1.2.2.2.2
  have hO := hW.2.2.1
  have hl : lv_has ls 9 [(5, .int (nI (5 * k))), (4, .ref (ad 41 0)), (3, .ref (ad 40 0)), (2, .ref (ad 20 0)), (1, .ref (ad 0 0)), (0, .ref b)] := hl
  refine lv_aload_n hx hb dL_law_172 rfl (lv_at hl 4 rfl) ?_
  refine lv_aload_n hx hb dL_law_173 rfl (lv_at hl 5 rfl) ?_
  refine lv_iload hx hb dL_law_174 (lv_at hl 0 rfl) ?_
  refine lv_iconst (v := nI 1) hx hb dL_law_176 (by decide) ?_
  refine n_iadd hx hb dL_law_177 ?_
  refine r_sld M hX hbl hbA hS (by omega) (by omega) dL_law_178 ?_
  refine lv_aload_n hx hb dL_law_179 rfl (lv_at hl 5 rfl) ?_
  refine lv_iload hx hb dL_law_180 (lv_at hl 0 rfl) ?_
  refine lv_iconst (v := nI 2) hx hb dL_law_182 (by decide) ?_
  refine n_iadd hx hb dL_law_183 ?_
  refine r_sld M hX hbl hbA hS (by omega) (by omega) dL_law_184 ?_
  refine k_ite (P := xs (5 * k + 2) = 0) (a := 0) (b := 1) (pcj := 193) (rest := [.int (xs (5 * k + 1)), .ref (ad 0 0)]) (fun j1 j2 => ?_) ?_
  · refine lv_if_eq (tgt := 192) hx hb dL_law_185 (by decide) (fun c9 => ?_) (fun c9 => ?_)
    · refine lv_iconst (v := nI 0) hx hb dL_law_192 (by decide) ?_
      exact j1 c9
    · refine lv_iconst (v := nI 1) hx hb dL_law_188 (by decide) ?_
      refine lv_goto (tgt := 193) hx hb dL_law_189 (by decide) ?_
      exact j2 c9
  have hb1 : (if xs (5 * k + 2) = 0 then 0 else 1) ≤ 1 := by split <;> decide
  refine lv_aload_n hx hb dL_law_193 rfl (lv_at hl 2 rfl) ?_
  refine k_ci (vx_runSW (As := [.ref (ad 0 0), .int (xs (5 * k + 1)), .int (nI (if xs (5 * k + 2) = 0 then 0 else 1)), .ref (ad 40 0)]) (rest := []) M.1 (c_L_setTrusted l hfl D Z N0 g ad (xs (5 * k + 1)) (if xs (5 * k + 2) = 0 then 0 else 1) hb1) (vx_cwSW 4 hts gL_law_L_setTrusted rfl rfl rfl (by decide +kernel) ⟨(Nat.le_of_ble_eq_true rfl), (Nat.le_of_ble_eq_true rfl)⟩) (k_pS M hW hS) rfl rfl hl.1 rfl (lv_room (Nat.le_of_ble_eq_true rfl)) dL_law_194 ⟨(show cells + 1 ≤ 603072 by omega), (show slots + 6 ≤ 7219305 by omega)⟩) hS (fun r1 g1 H locs hp hW hS => ?_)
  obtain ⟨hf1, h1⟩ := hp
  refine lv_istore (lv' := [(6, .int (r1)), (5, .int (nI (5 * k))), (4, .ref (ad 41 0)), (3, .ref (ad 40 0)), (2, .ref (ad 20 0)), (1, .ref (ad 0 0)), (0, .ref b)]) hx hb dL_law_197 hl (by decide) rfl (fun ls hl => ?_)
  refine lv_aload_n hx hb dL_law_199 rfl (lv_at hl 4 rfl) ?_
  refine lv_aload_n hx hb dL_law_200 rfl (lv_at hl 6 rfl) ?_
  refine lv_iload hx hb dL_law_201 (lv_at hl 1 rfl) ?_
  refine lv_iconst (v := nI 1) hx hb dL_law_203 (by decide) ?_
  refine n_iadd hx hb dL_law_204 ?_
  refine r_sld M hX hbl hbA hS (by omega) (by omega) dL_law_205 ?_
  refine lv_aload_n hx hb dL_law_206 rfl (lv_at hl 6 rfl) ?_
  refine lv_iload hx hb dL_law_207 (lv_at hl 1 rfl) ?_
  refine lv_iconst (v := nI 2) hx hb dL_law_209 (by decide) ?_
  refine n_iadd hx hb dL_law_210 ?_
  refine r_sld M hX hbl hbA hS (by omega) (by omega) dL_law_211 ?_
  refine k_ite (P := xs (5 * k + 2) = 0) (a := 0) (b := 1) (pcj := 220) (rest := [.int (xs (5 * k + 1)), .ref (ad 20 0)]) (fun j1 j2 => ?_) ?_
  · refine lv_if_eq (tgt := 219) hx hb dL_law_212 (by decide) (fun c9 => ?_) (fun c9 => ?_)
    · refine lv_iconst (v := nI 0) hx hb dL_law_219 (by decide) ?_
      exact j1 c9
    · refine lv_iconst (v := nI 1) hx hb dL_law_215 (by decide) ?_
      refine lv_goto (tgt := 220) hx hb dL_law_216 (by decide) ?_
      exact j2 c9
  refine k_ci (k_rV (As := [.int (xs (5 * k + 1)), .int (nI (if xs (5 * k + 2) = 0 then 0 else 1))]) (rest := []) M hW hS (c_X5_setTrusted l D Z N0 g1 ad (xs (5 * k + 1)) (if xs (5 * k + 2) = 0 then 0 else 1) hb1) (cwV 2 hts gL_law_X5_setTrusted rfl rfl rfl (by decide +kernel) ⟨(Nat.le_of_ble_eq_true rfl), (Nat.le_of_ble_eq_true rfl)⟩) (r_recv M.2 hW 20 0 (lvM _) rfl rfl) rfl hl.1 rfl (Nat.le_of_ble_eq_true rfl) dL_law_220 ⟨(show (cells + 1) + 0 ≤ 603072 by omega), (show (slots + 6) + 0 ≤ 7219305 by omega)⟩) hS (fun r2 g2 H locs hp hW hS => ?_)
  obtain ⟨hf2, h2⟩ := hp
  have st9 := st_setTrusted (y := 0) (z := 0) (u := 0) hR hK hO hb1 h1 h2
  obtain ⟨kk, bb, hk3, rfl, h20, hb9, rfl, hv, hR2, hK2⟩ := st9
  have hIv2 : Iv g2 := hIv.fr (hf1.trans hf2)
  refine lv_istore (lv' := [(7, .int (nI (bb))), (6, .int (nI (kk))), (5, .int (nI (5 * k))), (4, .ref (ad 41 0)), (3, .ref (ad 40 0)), (2, .ref (ad 20 0)), (1, .ref (ad 0 0)), (0, .ref b)]) hx hb dL_law_223 hl (by decide) rfl (fun ls hl => ?_)
  refine lv_aload_n hx hb dL_law_225 rfl (lv_at hl 5 rfl) ?_
  refine k_ci (k_rV (As := []) (rest := []) M hW hS (c_X5_thrown l D Z N0 g2 ad) (cwV 0 hts gL_law_X5_thrown rfl rfl rfl (by decide +kernel) ⟨(Nat.le_of_ble_eq_true rfl), (Nat.le_of_ble_eq_true rfl)⟩) (r_recv M.2 hW 20 0 (lvM _) rfl rfl) rfl hl.1 rfl (Nat.le_of_ble_eq_true rfl) dL_law_226 ⟨(show ((cells + 1) + 0) + 0 ≤ 603072 by omega), (show ((slots + 6) + 0) + 0 ≤ 7219305 by omega)⟩) hS (fun r3 g3 H locs hp hW hS => ?_)
  obtain ⟨-, rfl, rfl⟩ := hp
  refine lv_iload hx hb dL_law_229 (lv_at hl 1 rfl) ?_
  refine lv_icmp_eq (tgt := 236) hx hb dL_law_231 (by decide) (fun _ => ?_) (fun h9 => absurd (congrArg nI h20) h9)
  refine lv_iload hx hb dL_law_236 (lv_at hl 1 rfl) ?_
  refine n_if_ne (tgt := 260) hx hb (by omega) dL_law_238 (by decide) (fun hz => ?_) (fun hz => ?_)
  · refine lv_goto (tgt := 1797) hx hb dL_law_260 (by decide) ?_
    refine W.widen (k := cells + 4) (n := slots + 40) (by omega) (by omega) ?_
    exact next g2 ad _ _ _ hR2 hIv2 hK2 hW hS (lv_sub hl [2, 3, 4, 5, 6, 7] rfl)
  · refine lv_aload_n hx hb dL_law_241 rfl (lv_at hl 4 rfl) ?_
    refine lv_iconst (v := nI 0) hx hb dL_law_242 (by decide) ?_
    refine r_lld M hW dL_law_243 ?_
    refine lv_iload hx hb dL_law_244 (lv_at hl 0 rfl) ?_
    refine n_if_eq (tgt := 253) hx hb (by omega) dL_law_246 (by decide) (fun hb0 => ?_) (fun hb0 => ?_)
    · refine lv_lconst (v := lN 0) hx hb dL_law_253 rfl ?_
      refine W.lcmp hx hb dL_law_254 ?_
      refine W.eq (g2 := F0 m 255 ls [.int (nI 0)]) (congrArg (fun z => F0 m 255 ls [.int z]) (by rw [hv hz, hb0]; exact lcz _)) ?_
      refine n_if_eq (tgt := 260) hx hb (by decide) dL_law_255 (by decide) (fun _ => ?_) (fun h9 => absurd rfl h9)
      refine lv_goto (tgt := 1797) hx hb dL_law_260 (by decide) ?_
      refine W.widen (k := cells + 4) (n := slots + 40) (by omega) (by omega) ?_
      exact next g2 ad _ _ _ hR2 hIv2 hK2 hW hS (lv_sub hl [2, 3, 4, 5, 6, 7] rfl)
    · refine lv_lconst (v := lN 1) hx hb dL_law_249 rfl ?_
      refine lv_goto (tgt := 254) hx hb dL_law_250 (by decide) ?_
      refine W.lcmp hx hb dL_law_254 ?_
      refine W.eq (g2 := F0 m 255 ls [.int (nI 0)]) (congrArg (fun z => F0 m 255 ls [.int z]) (by rw [hv hz, show bb = 1 by omega]; exact lcz _)) ?_
      refine n_if_eq (tgt := 260) hx hb (by decide) dL_law_255 (by decide) (fun _ => ?_) (fun h9 => absurd rfl h9)
      refine lv_goto (tgt := 1797) hx hb dL_law_260 (by decide) ?_
      refine W.widen (k := cells + 4) (n := slots + 40) (by omega) (by omega) ?_
      exact next g2 ad _ _ _ hR2 hIv2 hK2 hW hS (lv_sub hl [2, 3, 4, 5, 6, 7] rfl)

set_option maxHeartbeats 4000000 in
set_option maxRecDepth 100000 in
theorem lc_addStage {p : Program} {l : Launch} {e : Env} {s : State} {m : MethodId} {below : List Frame} {meth : Method} {c : Code} (hfl : l.stackTraces = false) {b L : Nat} {xs : Nat → Int32} {D : va_G} {Z : Nat → Nat} {N0 : Nat} {Q : State → Prop} (M : Mx p m c cL_law 9 s #[Value.ref b] wsL_law RL D Z N0) (hX : va_X b L xs s s.heap) (hbl : b < s.heap.size) (hbA : ¬ AA N0 b) (hL : L ≤ 2560) {k : Nat} (hk : 5 * k + 5 ≤ L) {g : T3} {ad : T2} {H : Heap} {locs : List Loc} {ls : Array Slot} {cells slots : Nat} (hc9 : cells + 4 ≤ 603072) (hs9 : slots + 40 ≤ 7219305) (hR : Rel g) (hIv : Iv g) (hK : Kv g) (hW : Wd D Z N0 g ad H) (hS : va_S (AA N0) s.heap H locs) (hl : lv_has ls 9 (lvL b ad k)) (next : LN p l e s m b below meth c D Z N0 Q k cells slots) : W p l e room_1 s m #[Value.ref b] below meth c H locs cells slots Q (F0 m 263 ls []) := by
  have hx := M.1.1
  have hb := M.1.2.1
  have hts := M.1.2.2.2.2
  have hO := hW.2.2.1
  have hl : lv_has ls 9 [(5, .int (nI (5 * k))), (4, .ref (ad 41 0)), (3, .ref (ad 40 0)), (2, .ref (ad 20 0)), (1, .ref (ad 0 0)), (0, .ref b)] := hl
  refine lv_aload_n hx hb dL_law_263 rfl (lv_at hl 4 rfl) ?_
  refine lv_aload_n hx hb dL_law_264 rfl (lv_at hl 5 rfl) ?_
  refine lv_iload hx hb dL_law_265 (lv_at hl 0 rfl) ?_
  refine lv_iconst (v := nI 1) hx hb dL_law_267 (by decide) ?_
  refine n_iadd hx hb dL_law_268 ?_
  refine r_sld M hX hbl hbA hS (by omega) (by omega) dL_law_269 ?_
  refine lv_aload_n hx hb dL_law_270 rfl (lv_at hl 2 rfl) ?_
  refine k_cAi (vx_runSW (As := [.ref (ad 0 0), .int (xs (5 * k + 1)), .ref (ad 40 0)]) (rest := []) M.1 (c_L_addStage l hfl D Z N0 g ad (xs (5 * k + 1)) hIv) (vx_cwSW 3 hts gL_law_L_addStage rfl rfl rfl (by decide +kernel) ⟨(Nat.le_of_ble_eq_true rfl), (Nat.le_of_ble_eq_true rfl)⟩) (k_pS M hW hS) rfl rfl hl.1 rfl (lv_room (Nat.le_of_ble_eq_true rfl)) dL_law_271 ⟨(show cells + 3 ≤ 603072 by omega), (show slots + 16 ≤ 7219305 by omega)⟩) hS (fun r1 g1 ad1 H locs hp hW hS => ?_)
  have h1 := hp
  have hAS : AdS ad ad1 := by
    rcases id hp with ⟨-, _, _, ⟨_, _, _, _, _, _, _, h⟩, -⟩ | ⟨-, -, h, -⟩ | ⟨-, -, h, -⟩
    · exact h
    · rw [h]; exact AdS.rf ad
    · rw [h]; exact AdS.rf ad
  have hIv1 : Iv g1 := by
    rcases id hp with ⟨-, _, _, ⟨i, -, -, -, -, -, h, -⟩, n9, -, h9⟩ | ⟨-, h, -⟩ | ⟨-, h, -⟩
    · rw [h9, h]; exact (Iv_as hIv i).fr ((Fr.rf _).up rfl)
    · rw [h]; exact hIv
    · rw [h]; exact hIv
  have e0 : ad 0 0 = ad1 0 0 := (hAS 0 0 (by decide)).symm
  have e20 : ad 20 0 = ad1 20 0 := (hAS 20 0 (by decide)).symm
  have e40 : ad 40 0 = ad1 40 0 := (hAS 40 0 (by decide)).symm
  have e41 : ad 41 0 = ad1 41 0 := (hAS 41 0 (by decide)).symm
  rw [e0, e20, e40, e41] at hl
  refine lv_istore (lv' := [(6, .int (r1)), (5, .int (nI (5 * k))), (4, .ref (ad1 41 0)), (3, .ref (ad1 40 0)), (2, .ref (ad1 20 0)), (1, .ref (ad1 0 0)), (0, .ref b)]) hx hb dL_law_274 hl (by decide) rfl (fun ls hl => ?_)
  refine lv_aload_n hx hb dL_law_276 rfl (lv_at hl 4 rfl) ?_
  refine lv_aload_n hx hb dL_law_277 rfl (lv_at hl 6 rfl) ?_
  refine lv_iload hx hb dL_law_278 (lv_at hl 1 rfl) ?_
  refine lv_iconst (v := nI 1) hx hb dL_law_280 (by decide) ?_
  refine n_iadd hx hb dL_law_281 ?_
  refine r_sld M hX hbl hbA hS (by omega) (by omega) dL_law_282 ?_
  refine k_ci (k_rV (As := [.int (xs (5 * k + 1))]) (rest := []) M hW hS (c_X5_addStage l D Z N0 g1 ad1 (xs (5 * k + 1))) (cwV 1 hts gL_law_X5_addStage rfl rfl rfl (by decide +kernel) ⟨(Nat.le_of_ble_eq_true rfl), (Nat.le_of_ble_eq_true rfl)⟩) (r_recv M.2 hW 20 0 (lvM _) rfl rfl) rfl hl.1 rfl (Nat.le_of_ble_eq_true rfl) dL_law_283 ⟨(show (cells + 3) + 0 ≤ 603072 by omega), (show (slots + 16) + 0 ≤ 7219305 by omega)⟩) hS (fun r2 g2 H locs hp hW hS => ?_)
  obtain ⟨hf2, h2⟩ := hp
  have st9 := st_addStage (y := 0) (z := 0) (u := 0) (b := 0) hR hK hO h1 h2
  obtain ⟨kk, hk3, rfl, h20, hv, hR2, hK2⟩ := st9
  have hIv2 : Iv g2 := hIv1.fr hf2
  refine lv_istore (lv' := [(7, .int (r2)), (6, .int (nI (kk))), (5, .int (nI (5 * k))), (4, .ref (ad1 41 0)), (3, .ref (ad1 40 0)), (2, .ref (ad1 20 0)), (1, .ref (ad1 0 0)), (0, .ref b)]) hx hb dL_law_286 hl (by decide) rfl (fun ls hl => ?_)
  refine lv_aload_n hx hb dL_law_288 rfl (lv_at hl 5 rfl) ?_
  refine k_ci (k_rV (As := []) (rest := []) M hW hS (c_X5_thrown l D Z N0 g2 ad1) (cwV 0 hts gL_law_X5_thrown rfl rfl rfl (by decide +kernel) ⟨(Nat.le_of_ble_eq_true rfl), (Nat.le_of_ble_eq_true rfl)⟩) (r_recv M.2 hW 20 0 (lvM _) rfl rfl) rfl hl.1 rfl (Nat.le_of_ble_eq_true rfl) dL_law_289 ⟨(show ((cells + 3) + 0) + 0 ≤ 603072 by omega), (show ((slots + 16) + 0) + 0 ≤ 7219305 by omega)⟩) hS (fun r3 g3 H locs hp hW hS => ?_)
  obtain ⟨-, rfl, rfl⟩ := hp
  refine lv_iload hx hb dL_law_292 (lv_at hl 1 rfl) ?_
  refine lv_icmp_eq (tgt := 299) hx hb dL_law_294 (by decide) (fun _ => ?_) (fun h9 => absurd (congrArg nI h20) h9)
  refine lv_iload hx hb dL_law_299 (lv_at hl 1 rfl) ?_
  refine n_if_ne (tgt := 316) hx hb (by omega) dL_law_301 (by decide) (fun hz => ?_) (fun hz => ?_)
  · refine lv_goto (tgt := 1797) hx hb dL_law_316 (by decide) ?_
    refine W.widen (k := cells + 4) (n := slots + 40) (by omega) (by omega) ?_
    exact next g2 ad1 _ _ _ hR2 hIv2 hK2 hW hS (lv_sub hl [2, 3, 4, 5, 6, 7] rfl)
  · refine lv_aload_n hx hb dL_law_304 rfl (lv_at hl 4 rfl) ?_
    refine lv_iconst (v := nI 0) hx hb dL_law_305 (by decide) ?_
    refine r_lld M hW dL_law_306 ?_
    refine lv_iload hx hb dL_law_307 (lv_at hl 0 rfl) ?_
    refine lv_i2l hx hb dL_law_309 (hv hz).symm ?_
    refine W.lcmp hx hb dL_law_310 ?_
    refine W.eq (g2 := F0 m 311 ls [.int (nI 0)]) (congrArg (fun z => F0 m 311 ls [.int z]) (lcz _)) ?_
    refine n_if_eq (tgt := 316) hx hb (by decide) dL_law_311 (by decide) (fun _ => ?_) (fun h9 => absurd rfl h9)
    refine lv_goto (tgt := 1797) hx hb dL_law_316 (by decide) ?_
    refine W.widen (k := cells + 4) (n := slots + 40) (by omega) (by omega) ?_
    exact next g2 ad1 _ _ _ hR2 hIv2 hK2 hW hS (lv_sub hl [2, 3, 4, 5, 6, 7] rfl)

set_option maxHeartbeats 4000000 in
set_option maxRecDepth 100000 in
theorem lc_install {p : Program} {l : Launch} {e : Env} {s : State} {m : MethodId} {below : List Frame} {meth : Method} {c : Code} (hfl : l.stackTraces = false) {b L : Nat} {xs : Nat → Int32} {D : va_G} {Z : Nat → Nat} {N0 : Nat} {Q : State → Prop} (M : Mx p m c cL_law 9 s #[Value.ref b] wsL_law RL D Z N0) (hX : va_X b L xs s s.heap) (hbl : b < s.heap.size) (hbA : ¬ AA N0 b) (hL : L ≤ 2560) {k : Nat} (hk : 5 * k + 5 ≤ L) {g : T3} {ad : T2} {H : Heap} {locs : List Loc} {ls : Array Slot} {cells slots : Nat} (hc9 : cells + 4 ≤ 603072) (hs9 : slots + 40 ≤ 7219305) (hR : Rel g) (hIv : Iv g) (hK : Kv g) (hW : Wd D Z N0 g ad H) (hS : va_S (AA N0) s.heap H locs) (hl : lv_has ls 9 (lvL b ad k)) (next : LN p l e s m b below meth c D Z N0 Q k cells slots) : W p l e room_1 s m #[Value.ref b] below meth c H locs cells slots Q (F0 m 319 ls []) := by
  have hx := M.1.1
  have hb := M.1.2.1
  have hts := M.1.2.2.2.2
  have hO := hW.2.2.1
  have hl : lv_has ls 9 [(5, .int (nI (5 * k))), (4, .ref (ad 41 0)), (3, .ref (ad 40 0)), (2, .ref (ad 20 0)), (1, .ref (ad 0 0)), (0, .ref b)] := hl
  refine lv_aload_n hx hb dL_law_319 rfl (lv_at hl 4 rfl) ?_
  refine lv_aload_n hx hb dL_law_320 rfl (lv_at hl 5 rfl) ?_
  refine lv_iload hx hb dL_law_321 (lv_at hl 0 rfl) ?_
  refine lv_iconst (v := nI 1) hx hb dL_law_323 (by decide) ?_
  refine n_iadd hx hb dL_law_324 ?_
  refine r_sld M hX hbl hbA hS (by omega) (by omega) dL_law_325 ?_
  refine lv_aload_n hx hb dL_law_326 rfl (lv_at hl 5 rfl) ?_
  refine lv_iload hx hb dL_law_327 (lv_at hl 0 rfl) ?_
  refine lv_iconst (v := nI 2) hx hb dL_law_329 (by decide) ?_
  refine n_iadd hx hb dL_law_330 ?_
  refine r_sld M hX hbl hbA hS (by omega) (by omega) dL_law_331 ?_
  refine lv_aload_n hx hb dL_law_332 rfl (lv_at hl 5 rfl) ?_
  refine lv_iload hx hb dL_law_333 (lv_at hl 0 rfl) ?_
  refine lv_iconst (v := nI 3) hx hb dL_law_335 (by decide) ?_
  refine n_iadd hx hb dL_law_336 ?_
  refine r_sld M hX hbl hbA hS (by omega) (by omega) dL_law_337 ?_
  refine lv_aload_n hx hb dL_law_338 rfl (lv_at hl 5 rfl) ?_
  refine lv_iload hx hb dL_law_339 (lv_at hl 0 rfl) ?_
  refine lv_iconst (v := nI 4) hx hb dL_law_341 (by decide) ?_
  refine n_iadd hx hb dL_law_342 ?_
  refine r_sld M hX hbl hbA hS (by omega) (by omega) dL_law_343 ?_
  refine lv_aload_n hx hb dL_law_344 rfl (lv_at hl 2 rfl) ?_
  refine k_cAi (vx_runSW (As := [.ref (ad 0 0), .int (xs (5 * k + 1)), .int (xs (5 * k + 2)), .int (xs (5 * k + 3)), .int (xs (5 * k + 4)), .ref (ad 40 0)]) (rest := []) M.1 (c_L_install l hfl D Z N0 g ad (xs (5 * k + 1)) (xs (5 * k + 2)) (xs (5 * k + 3)) (xs (5 * k + 4)) hIv) (vx_cwSW 6 hts gL_law_L_install rfl rfl rfl (by decide +kernel) ⟨(Nat.le_of_ble_eq_true rfl), (Nat.le_of_ble_eq_true rfl)⟩) (k_pS M hW hS) rfl rfl hl.1 rfl (lv_room (Nat.le_of_ble_eq_true rfl)) dL_law_345 ⟨(show cells + 2 ≤ 603072 by omega), (show slots + 12 ≤ 7219305 by omega)⟩) hS (fun r1 g1 ad1 H locs hp hW hS => ?_)
  have h1 := hp
  have hAS : AdS ad ad1 := by
    rcases id hp with ⟨-, _, _, ⟨_, _, _, _, _, _, _, _, _, _, _, _, _, _, _, _, h⟩, -⟩ | ⟨-, -, h, -⟩ | ⟨-, -, h, -⟩
    · exact h
    · rw [h]; exact AdS.rf ad
    · rw [h]; exact AdS.rf ad
  have hIv1 : Iv g1 := by
    rcases id hp with ⟨-, _, _, ⟨i, kk, v, q, -, -, -, -, -, -, -, -, -, -, -, h, -⟩, n9, -, h9⟩ | ⟨-, h, -⟩ | ⟨-, h, -⟩
    · rw [h9, h]; exact (Iv_im hIv (Nat.lt_succ_of_le (pSl_le hO i)) kk v q).fr ((Fr.rf _).up rfl)
    · rw [h]; exact hIv
    · rw [h]; exact hIv
  have e0 : ad 0 0 = ad1 0 0 := (hAS 0 0 (by decide)).symm
  have e20 : ad 20 0 = ad1 20 0 := (hAS 20 0 (by decide)).symm
  have e40 : ad 40 0 = ad1 40 0 := (hAS 40 0 (by decide)).symm
  have e41 : ad 41 0 = ad1 41 0 := (hAS 41 0 (by decide)).symm
  rw [e0, e20, e40, e41] at hl
  refine lv_istore (lv' := [(6, .int (r1)), (5, .int (nI (5 * k))), (4, .ref (ad1 41 0)), (3, .ref (ad1 40 0)), (2, .ref (ad1 20 0)), (1, .ref (ad1 0 0)), (0, .ref b)]) hx hb dL_law_348 hl (by decide) rfl (fun ls hl => ?_)
  refine lv_aload_n hx hb dL_law_350 rfl (lv_at hl 4 rfl) ?_
  refine lv_aload_n hx hb dL_law_351 rfl (lv_at hl 6 rfl) ?_
  refine lv_iload hx hb dL_law_352 (lv_at hl 1 rfl) ?_
  refine lv_iconst (v := nI 1) hx hb dL_law_354 (by decide) ?_
  refine n_iadd hx hb dL_law_355 ?_
  refine r_sld M hX hbl hbA hS (by omega) (by omega) dL_law_356 ?_
  refine lv_aload_n hx hb dL_law_357 rfl (lv_at hl 6 rfl) ?_
  refine lv_iload hx hb dL_law_358 (lv_at hl 1 rfl) ?_
  refine lv_iconst (v := nI 2) hx hb dL_law_360 (by decide) ?_
  refine n_iadd hx hb dL_law_361 ?_
  refine r_sld M hX hbl hbA hS (by omega) (by omega) dL_law_362 ?_
  refine lv_aload_n hx hb dL_law_363 rfl (lv_at hl 6 rfl) ?_
  refine lv_iload hx hb dL_law_364 (lv_at hl 1 rfl) ?_
  refine lv_iconst (v := nI 3) hx hb dL_law_366 (by decide) ?_
  refine n_iadd hx hb dL_law_367 ?_
  refine r_sld M hX hbl hbA hS (by omega) (by omega) dL_law_368 ?_
  refine lv_aload_n hx hb dL_law_369 rfl (lv_at hl 6 rfl) ?_
  refine lv_iload hx hb dL_law_370 (lv_at hl 1 rfl) ?_
  refine lv_iconst (v := nI 4) hx hb dL_law_372 (by decide) ?_
  refine n_iadd hx hb dL_law_373 ?_
  refine r_sld M hX hbl hbA hS (by omega) (by omega) dL_law_374 ?_
  refine k_ci (k_rV (As := [.int (xs (5 * k + 1)), .int (xs (5 * k + 2)), .int (xs (5 * k + 3)), .int (xs (5 * k + 4))]) (rest := []) M hW hS (c_X5_install l D Z N0 g1 ad1 (xs (5 * k + 1)) (xs (5 * k + 2)) (xs (5 * k + 3)) (xs (5 * k + 4))) (cwV 4 hts gL_law_X5_install rfl rfl rfl (by decide +kernel) ⟨(Nat.le_of_ble_eq_true rfl), (Nat.le_of_ble_eq_true rfl)⟩) (r_recv M.2 hW 20 0 (lvM _) rfl rfl) rfl hl.1 rfl (Nat.le_of_ble_eq_true rfl) dL_law_375 ⟨(show (cells + 2) + 0 ≤ 603072 by omega), (show (slots + 12) + 0 ≤ 7219305 by omega)⟩) hS (fun r2 g2 H locs hp hW hS => ?_)
  obtain ⟨hf2, h2⟩ := hp
  have st9 := st_install (b := 0) hR hK hO h1 h2
  obtain ⟨kk, hk3, rfl, h20, hv, hR2, hK2⟩ := st9
  have hIv2 : Iv g2 := hIv1.fr hf2
  refine lv_istore (lv' := [(7, .int (r2)), (6, .int (nI (kk))), (5, .int (nI (5 * k))), (4, .ref (ad1 41 0)), (3, .ref (ad1 40 0)), (2, .ref (ad1 20 0)), (1, .ref (ad1 0 0)), (0, .ref b)]) hx hb dL_law_378 hl (by decide) rfl (fun ls hl => ?_)
  refine lv_aload_n hx hb dL_law_380 rfl (lv_at hl 5 rfl) ?_
  refine k_ci (k_rV (As := []) (rest := []) M hW hS (c_X5_thrown l D Z N0 g2 ad1) (cwV 0 hts gL_law_X5_thrown rfl rfl rfl (by decide +kernel) ⟨(Nat.le_of_ble_eq_true rfl), (Nat.le_of_ble_eq_true rfl)⟩) (r_recv M.2 hW 20 0 (lvM _) rfl rfl) rfl hl.1 rfl (Nat.le_of_ble_eq_true rfl) dL_law_381 ⟨(show ((cells + 2) + 0) + 0 ≤ 603072 by omega), (show ((slots + 12) + 0) + 0 ≤ 7219305 by omega)⟩) hS (fun r3 g3 H locs hp hW hS => ?_)
  obtain ⟨-, rfl, rfl⟩ := hp
  refine lv_iload hx hb dL_law_384 (lv_at hl 1 rfl) ?_
  refine lv_icmp_eq (tgt := 391) hx hb dL_law_386 (by decide) (fun _ => ?_) (fun h9 => absurd (congrArg nI h20) h9)
  refine lv_iload hx hb dL_law_391 (lv_at hl 1 rfl) ?_
  refine n_if_ne (tgt := 408) hx hb (by omega) dL_law_393 (by decide) (fun hz => ?_) (fun hz => ?_)
  · refine lv_goto (tgt := 1797) hx hb dL_law_408 (by decide) ?_
    refine W.widen (k := cells + 4) (n := slots + 40) (by omega) (by omega) ?_
    exact next g2 ad1 _ _ _ hR2 hIv2 hK2 hW hS (lv_sub hl [2, 3, 4, 5, 6, 7] rfl)
  · refine lv_aload_n hx hb dL_law_396 rfl (lv_at hl 4 rfl) ?_
    refine lv_iconst (v := nI 0) hx hb dL_law_397 (by decide) ?_
    refine r_lld M hW dL_law_398 ?_
    refine lv_iload hx hb dL_law_399 (lv_at hl 0 rfl) ?_
    refine lv_i2l hx hb dL_law_401 (hv hz).symm ?_
    refine W.lcmp hx hb dL_law_402 ?_
    refine W.eq (g2 := F0 m 403 ls [.int (nI 0)]) (congrArg (fun z => F0 m 403 ls [.int z]) (lcz _)) ?_
    refine n_if_eq (tgt := 408) hx hb (by decide) dL_law_403 (by decide) (fun _ => ?_) (fun h9 => absurd rfl h9)
    refine lv_goto (tgt := 1797) hx hb dL_law_408 (by decide) ?_
    refine W.widen (k := cells + 4) (n := slots + 40) (by omega) (by omega) ?_
    exact next g2 ad1 _ _ _ hR2 hIv2 hK2 hW hS (lv_sub hl [2, 3, 4, 5, 6, 7] rfl)

set_option maxHeartbeats 4000000 in
set_option maxRecDepth 100000 in
theorem lc_setBad {p : Program} {l : Launch} {e : Env} {s : State} {m : MethodId} {below : List Frame} {meth : Method} {c : Code} (hfl : l.stackTraces = false) {b L : Nat} {xs : Nat → Int32} {D : va_G} {Z : Nat → Nat} {N0 : Nat} {Q : State → Prop} (M : Mx p m c cL_law 9 s #[Value.ref b] wsL_law RL D Z N0) (hX : va_X b L xs s s.heap) (hbl : b < s.heap.size) (hbA : ¬ AA N0 b) (hL : L ≤ 2560) {k : Nat} (hk : 5 * k + 5 ≤ L) {g : T3} {ad : T2} {H : Heap} {locs : List Loc} {ls : Array Slot} {cells slots : Nat} (hc9 : cells + 4 ≤ 603072) (hs9 : slots + 40 ≤ 7219305) (hR : Rel g) (hIv : Iv g) (hK : Kv g) (hW : Wd D Z N0 g ad H) (hS : va_S (AA N0) s.heap H locs) (hl : lv_has ls 9 (lvL b ad k)) (next : LN p l e s m b below meth c D Z N0 Q k cells slots) : W p l e room_1 s m #[Value.ref b] below meth c H locs cells slots Q (F0 m 411 ls []) := by
  have hx := M.1.1
  have hb := M.1.2.1
  have hts := M.1.2.2.2.2
  have hO := hW.2.2.1
  have hl : lv_has ls 9 [(5, .int (nI (5 * k))), (4, .ref (ad 41 0)), (3, .ref (ad 40 0)), (2, .ref (ad 20 0)), (1, .ref (ad 0 0)), (0, .ref b)] := hl
  refine lv_aload_n hx hb dL_law_411 rfl (lv_at hl 4 rfl) ?_
  refine lv_aload_n hx hb dL_law_412 rfl (lv_at hl 5 rfl) ?_
  refine lv_iload hx hb dL_law_413 (lv_at hl 0 rfl) ?_
  refine lv_iconst (v := nI 1) hx hb dL_law_415 (by decide) ?_
  refine n_iadd hx hb dL_law_416 ?_
  refine r_sld M hX hbl hbA hS (by omega) (by omega) dL_law_417 ?_
  refine lv_aload_n hx hb dL_law_418 rfl (lv_at hl 5 rfl) ?_
  refine lv_iload hx hb dL_law_419 (lv_at hl 0 rfl) ?_
  refine lv_iconst (v := nI 2) hx hb dL_law_421 (by decide) ?_
  refine n_iadd hx hb dL_law_422 ?_
  refine r_sld M hX hbl hbA hS (by omega) (by omega) dL_law_423 ?_
  refine lv_aload_n hx hb dL_law_424 rfl (lv_at hl 5 rfl) ?_
  refine lv_iload hx hb dL_law_425 (lv_at hl 0 rfl) ?_
  refine lv_iconst (v := nI 3) hx hb dL_law_427 (by decide) ?_
  refine n_iadd hx hb dL_law_428 ?_
  refine r_sld M hX hbl hbA hS (by omega) (by omega) dL_law_429 ?_
  refine k_ite (P := xs (5 * k + 3) = 0) (a := 0) (b := 1) (pcj := 438) (rest := [.int (xs (5 * k + 2)), .int (xs (5 * k + 1)), .ref (ad 0 0)]) (fun j1 j2 => ?_) ?_
  · refine lv_if_eq (tgt := 437) hx hb dL_law_430 (by decide) (fun c9 => ?_) (fun c9 => ?_)
    · refine lv_iconst (v := nI 0) hx hb dL_law_437 (by decide) ?_
      exact j1 c9
    · refine lv_iconst (v := nI 1) hx hb dL_law_433 (by decide) ?_
      refine lv_goto (tgt := 438) hx hb dL_law_434 (by decide) ?_
      exact j2 c9
  have hb1 : (if xs (5 * k + 3) = 0 then 0 else 1) ≤ 1 := by split <;> decide
  refine lv_aload_n hx hb dL_law_438 rfl (lv_at hl 2 rfl) ?_
  refine k_ci (vx_runSW (As := [.ref (ad 0 0), .int (xs (5 * k + 1)), .int (xs (5 * k + 2)), .int (nI (if xs (5 * k + 3) = 0 then 0 else 1)), .ref (ad 40 0)]) (rest := []) M.1 (c_L_setBad l hfl D Z N0 g ad (xs (5 * k + 1)) (xs (5 * k + 2)) (if xs (5 * k + 3) = 0 then 0 else 1) hb1) (vx_cwSW 5 hts gL_law_L_setBad rfl rfl rfl (by decide +kernel) ⟨(Nat.le_of_ble_eq_true rfl), (Nat.le_of_ble_eq_true rfl)⟩) (k_pS M hW hS) rfl rfl hl.1 rfl (lv_room (Nat.le_of_ble_eq_true rfl)) dL_law_439 ⟨(show cells + 3 ≤ 603072 by omega), (show slots + 18 ≤ 7219305 by omega)⟩) hS (fun r1 g1 H locs hp hW hS => ?_)
  obtain ⟨hf1, h1⟩ := hp
  refine lv_istore (lv' := [(6, .int (r1)), (5, .int (nI (5 * k))), (4, .ref (ad 41 0)), (3, .ref (ad 40 0)), (2, .ref (ad 20 0)), (1, .ref (ad 0 0)), (0, .ref b)]) hx hb dL_law_442 hl (by decide) rfl (fun ls hl => ?_)
  refine lv_aload_n hx hb dL_law_444 rfl (lv_at hl 4 rfl) ?_
  refine lv_aload_n hx hb dL_law_445 rfl (lv_at hl 6 rfl) ?_
  refine lv_iload hx hb dL_law_446 (lv_at hl 1 rfl) ?_
  refine lv_iconst (v := nI 1) hx hb dL_law_448 (by decide) ?_
  refine n_iadd hx hb dL_law_449 ?_
  refine r_sld M hX hbl hbA hS (by omega) (by omega) dL_law_450 ?_
  refine lv_aload_n hx hb dL_law_451 rfl (lv_at hl 6 rfl) ?_
  refine lv_iload hx hb dL_law_452 (lv_at hl 1 rfl) ?_
  refine lv_iconst (v := nI 2) hx hb dL_law_454 (by decide) ?_
  refine n_iadd hx hb dL_law_455 ?_
  refine r_sld M hX hbl hbA hS (by omega) (by omega) dL_law_456 ?_
  refine lv_aload_n hx hb dL_law_457 rfl (lv_at hl 6 rfl) ?_
  refine lv_iload hx hb dL_law_458 (lv_at hl 1 rfl) ?_
  refine lv_iconst (v := nI 3) hx hb dL_law_460 (by decide) ?_
  refine n_iadd hx hb dL_law_461 ?_
  refine r_sld M hX hbl hbA hS (by omega) (by omega) dL_law_462 ?_
  refine k_ite (P := xs (5 * k + 3) = 0) (a := 0) (b := 1) (pcj := 471) (rest := [.int (xs (5 * k + 2)), .int (xs (5 * k + 1)), .ref (ad 20 0)]) (fun j1 j2 => ?_) ?_
  · refine lv_if_eq (tgt := 470) hx hb dL_law_463 (by decide) (fun c9 => ?_) (fun c9 => ?_)
    · refine lv_iconst (v := nI 0) hx hb dL_law_470 (by decide) ?_
      exact j1 c9
    · refine lv_iconst (v := nI 1) hx hb dL_law_466 (by decide) ?_
      refine lv_goto (tgt := 471) hx hb dL_law_467 (by decide) ?_
      exact j2 c9
  refine k_ci (k_rV (As := [.int (xs (5 * k + 1)), .int (xs (5 * k + 2)), .int (nI (if xs (5 * k + 3) = 0 then 0 else 1))]) (rest := []) M hW hS (c_X5_setBad l D Z N0 g1 ad (xs (5 * k + 1)) (xs (5 * k + 2)) (if xs (5 * k + 3) = 0 then 0 else 1) hb1) (cwV 3 hts gL_law_X5_setBad rfl rfl rfl (by decide +kernel) ⟨(Nat.le_of_ble_eq_true rfl), (Nat.le_of_ble_eq_true rfl)⟩) (r_recv M.2 hW 20 0 (lvM _) rfl rfl) rfl hl.1 rfl (Nat.le_of_ble_eq_true rfl) dL_law_471 ⟨(show (cells + 3) + 0 ≤ 603072 by omega), (show (slots + 18) + 0 ≤ 7219305 by omega)⟩) hS (fun r2 g2 H locs hp hW hS => ?_)
  obtain ⟨hf2, h2⟩ := hp
  have st9 := st_setBad (z := 0) (u := 0) hR hK hO hb1 h1 h2
  obtain ⟨kk, bb, hk3, rfl, h20, hb9, rfl, hv, hR2, hK2⟩ := st9
  have hIv2 : Iv g2 := hIv.fr (hf1.trans hf2)
  refine lv_istore (lv' := [(7, .int (nI (bb))), (6, .int (nI (kk))), (5, .int (nI (5 * k))), (4, .ref (ad 41 0)), (3, .ref (ad 40 0)), (2, .ref (ad 20 0)), (1, .ref (ad 0 0)), (0, .ref b)]) hx hb dL_law_474 hl (by decide) rfl (fun ls hl => ?_)
  refine lv_aload_n hx hb dL_law_476 rfl (lv_at hl 5 rfl) ?_
  refine k_ci (k_rV (As := []) (rest := []) M hW hS (c_X5_thrown l D Z N0 g2 ad) (cwV 0 hts gL_law_X5_thrown rfl rfl rfl (by decide +kernel) ⟨(Nat.le_of_ble_eq_true rfl), (Nat.le_of_ble_eq_true rfl)⟩) (r_recv M.2 hW 20 0 (lvM _) rfl rfl) rfl hl.1 rfl (Nat.le_of_ble_eq_true rfl) dL_law_477 ⟨(show ((cells + 3) + 0) + 0 ≤ 603072 by omega), (show ((slots + 18) + 0) + 0 ≤ 7219305 by omega)⟩) hS (fun r3 g3 H locs hp hW hS => ?_)
  obtain ⟨-, rfl, rfl⟩ := hp
  refine lv_iload hx hb dL_law_480 (lv_at hl 1 rfl) ?_
  refine lv_icmp_eq (tgt := 487) hx hb dL_law_482 (by decide) (fun _ => ?_) (fun h9 => absurd (congrArg nI h20) h9)
  refine lv_iload hx hb dL_law_487 (lv_at hl 1 rfl) ?_
  refine n_if_ne (tgt := 511) hx hb (by omega) dL_law_489 (by decide) (fun hz => ?_) (fun hz => ?_)
  · refine lv_goto (tgt := 1797) hx hb dL_law_511 (by decide) ?_
    refine W.widen (k := cells + 4) (n := slots + 40) (by omega) (by omega) ?_
    exact next g2 ad _ _ _ hR2 hIv2 hK2 hW hS (lv_sub hl [2, 3, 4, 5, 6, 7] rfl)
  · refine lv_aload_n hx hb dL_law_492 rfl (lv_at hl 4 rfl) ?_
    refine lv_iconst (v := nI 0) hx hb dL_law_493 (by decide) ?_
    refine r_lld M hW dL_law_494 ?_
    refine lv_iload hx hb dL_law_495 (lv_at hl 0 rfl) ?_
    refine n_if_eq (tgt := 504) hx hb (by omega) dL_law_497 (by decide) (fun hb0 => ?_) (fun hb0 => ?_)
    · refine lv_lconst (v := lN 0) hx hb dL_law_504 rfl ?_
      refine W.lcmp hx hb dL_law_505 ?_
      refine W.eq (g2 := F0 m 506 ls [.int (nI 0)]) (congrArg (fun z => F0 m 506 ls [.int z]) (by rw [hv hz, hb0]; exact lcz _)) ?_
      refine n_if_eq (tgt := 511) hx hb (by decide) dL_law_506 (by decide) (fun _ => ?_) (fun h9 => absurd rfl h9)
      refine lv_goto (tgt := 1797) hx hb dL_law_511 (by decide) ?_
      refine W.widen (k := cells + 4) (n := slots + 40) (by omega) (by omega) ?_
      exact next g2 ad _ _ _ hR2 hIv2 hK2 hW hS (lv_sub hl [2, 3, 4, 5, 6, 7] rfl)
    · refine lv_lconst (v := lN 1) hx hb dL_law_500 rfl ?_
      refine lv_goto (tgt := 505) hx hb dL_law_501 (by decide) ?_
      refine W.lcmp hx hb dL_law_505 ?_
      refine W.eq (g2 := F0 m 506 ls [.int (nI 0)]) (congrArg (fun z => F0 m 506 ls [.int z]) (by rw [hv hz, show bb = 1 by omega]; exact lcz _)) ?_
      refine n_if_eq (tgt := 511) hx hb (by decide) dL_law_506 (by decide) (fun _ => ?_) (fun h9 => absurd rfl h9)
      refine lv_goto (tgt := 1797) hx hb dL_law_511 (by decide) ?_
      refine W.widen (k := cells + 4) (n := slots + 40) (by omega) (by omega) ?_
      exact next g2 ad _ _ _ hR2 hIv2 hK2 hW hS (lv_sub hl [2, 3, 4, 5, 6, 7] rfl)

set_option maxHeartbeats 4000000 in
set_option maxRecDepth 100000 in
theorem lc_version {p : Program} {l : Launch} {e : Env} {s : State} {m : MethodId} {below : List Frame} {meth : Method} {c : Code} (hfl : l.stackTraces = false) {b L : Nat} {xs : Nat → Int32} {D : va_G} {Z : Nat → Nat} {N0 : Nat} {Q : State → Prop} (M : Mx p m c cL_law 9 s #[Value.ref b] wsL_law RL D Z N0) (hX : va_X b L xs s s.heap) (hbl : b < s.heap.size) (hbA : ¬ AA N0 b) (hL : L ≤ 2560) {k : Nat} (hk : 5 * k + 5 ≤ L) {g : T3} {ad : T2} {H : Heap} {locs : List Loc} {ls : Array Slot} {cells slots : Nat} (hc9 : cells + 4 ≤ 603072) (hs9 : slots + 40 ≤ 7219305) (hR : Rel g) (hIv : Iv g) (hK : Kv g) (hW : Wd D Z N0 g ad H) (hS : va_S (AA N0) s.heap H locs) (hl : lv_has ls 9 (lvL b ad k)) (next : LN p l e s m b below meth c D Z N0 Q k cells slots) : W p l e room_1 s m #[Value.ref b] below meth c H locs cells slots Q (F0 m 514 ls []) := by
  have hx := M.1.1
  have hb := M.1.2.1
  have hts := M.1.2.2.2.2
  have hO := hW.2.2.1
  have hl : lv_has ls 9 [(5, .int (nI (5 * k))), (4, .ref (ad 41 0)), (3, .ref (ad 40 0)), (2, .ref (ad 20 0)), (1, .ref (ad 0 0)), (0, .ref b)] := hl
  refine lv_aload_n hx hb dL_law_514 rfl (lv_at hl 4 rfl) ?_
  refine lv_aload_n hx hb dL_law_515 rfl (lv_at hl 5 rfl) ?_
  refine lv_iload hx hb dL_law_516 (lv_at hl 0 rfl) ?_
  refine lv_iconst (v := nI 1) hx hb dL_law_518 (by decide) ?_
  refine n_iadd hx hb dL_law_519 ?_
  refine r_sld M hX hbl hbA hS (by omega) (by omega) dL_law_520 ?_
  refine lv_aload_n hx hb dL_law_521 rfl (lv_at hl 5 rfl) ?_
  refine lv_iload hx hb dL_law_522 (lv_at hl 0 rfl) ?_
  refine lv_iconst (v := nI 2) hx hb dL_law_524 (by decide) ?_
  refine n_iadd hx hb dL_law_525 ?_
  refine r_sld M hX hbl hbA hS (by omega) (by omega) dL_law_526 ?_
  refine lv_aload_n hx hb dL_law_527 rfl (lv_at hl 2 rfl) ?_
  refine k_ci (vx_runSW (As := [.ref (ad 0 0), .int (xs (5 * k + 1)), .int (xs (5 * k + 2)), .ref (ad 40 0)]) (rest := []) M.1 (c_L_version l hfl D Z N0 g ad (xs (5 * k + 1)) (xs (5 * k + 2))) (vx_cwSW 4 hts gL_law_L_version rfl rfl rfl (by decide +kernel) ⟨(Nat.le_of_ble_eq_true rfl), (Nat.le_of_ble_eq_true rfl)⟩) (k_pS M hW hS) rfl rfl hl.1 rfl (lv_room (Nat.le_of_ble_eq_true rfl)) dL_law_528 ⟨(show cells + 3 ≤ 603072 by omega), (show slots + 18 ≤ 7219305 by omega)⟩) hS (fun r1 g1 H locs hp hW hS => ?_)
  obtain ⟨hf1, h1⟩ := hp
  refine lv_istore (lv' := [(6, .int (r1)), (5, .int (nI (5 * k))), (4, .ref (ad 41 0)), (3, .ref (ad 40 0)), (2, .ref (ad 20 0)), (1, .ref (ad 0 0)), (0, .ref b)]) hx hb dL_law_531 hl (by decide) rfl (fun ls hl => ?_)
  refine lv_aload_n hx hb dL_law_533 rfl (lv_at hl 4 rfl) ?_
  refine lv_aload_n hx hb dL_law_534 rfl (lv_at hl 6 rfl) ?_
  refine lv_iload hx hb dL_law_535 (lv_at hl 1 rfl) ?_
  refine lv_iconst (v := nI 1) hx hb dL_law_537 (by decide) ?_
  refine n_iadd hx hb dL_law_538 ?_
  refine r_sld M hX hbl hbA hS (by omega) (by omega) dL_law_539 ?_
  refine lv_aload_n hx hb dL_law_540 rfl (lv_at hl 6 rfl) ?_
  refine lv_iload hx hb dL_law_541 (lv_at hl 1 rfl) ?_
  refine lv_iconst (v := nI 2) hx hb dL_law_543 (by decide) ?_
  refine n_iadd hx hb dL_law_544 ?_
  refine r_sld M hX hbl hbA hS (by omega) (by omega) dL_law_545 ?_
  refine k_ci (k_rV (As := [.int (xs (5 * k + 1)), .int (xs (5 * k + 2))]) (rest := []) M hW hS (c_X5_version l D Z N0 g1 ad (xs (5 * k + 1)) (xs (5 * k + 2))) (cwV 2 hts gL_law_X5_version rfl rfl rfl (by decide +kernel) ⟨(Nat.le_of_ble_eq_true rfl), (Nat.le_of_ble_eq_true rfl)⟩) (r_recv M.2 hW 20 0 (lvM _) rfl rfl) rfl hl.1 rfl (Nat.le_of_ble_eq_true rfl) dL_law_546 ⟨(show (cells + 3) + 0 ≤ 603072 by omega), (show (slots + 18) + 0 ≤ 7219305 by omega)⟩) hS (fun r2 g2 H locs hp hW hS => ?_)
  obtain ⟨hf2, h2⟩ := hp
  have st9 := st_version (z := 0) (u := 0) (b := 0) hR hK hO h1 h2
  obtain ⟨kk, hk3, rfl, h20, hv, hR2, hK2⟩ := st9
  have hIv2 : Iv g2 := hIv.fr (hf1.trans hf2)
  refine lv_istore (lv' := [(7, .int (r2)), (6, .int (nI (kk))), (5, .int (nI (5 * k))), (4, .ref (ad 41 0)), (3, .ref (ad 40 0)), (2, .ref (ad 20 0)), (1, .ref (ad 0 0)), (0, .ref b)]) hx hb dL_law_549 hl (by decide) rfl (fun ls hl => ?_)
  refine lv_aload_n hx hb dL_law_551 rfl (lv_at hl 5 rfl) ?_
  refine k_ci (k_rV (As := []) (rest := []) M hW hS (c_X5_thrown l D Z N0 g2 ad) (cwV 0 hts gL_law_X5_thrown rfl rfl rfl (by decide +kernel) ⟨(Nat.le_of_ble_eq_true rfl), (Nat.le_of_ble_eq_true rfl)⟩) (r_recv M.2 hW 20 0 (lvM _) rfl rfl) rfl hl.1 rfl (Nat.le_of_ble_eq_true rfl) dL_law_552 ⟨(show ((cells + 3) + 0) + 0 ≤ 603072 by omega), (show ((slots + 18) + 0) + 0 ≤ 7219305 by omega)⟩) hS (fun r3 g3 H locs hp hW hS => ?_)
  obtain ⟨-, rfl, rfl⟩ := hp
  refine lv_iload hx hb dL_law_555 (lv_at hl 1 rfl) ?_
  refine lv_icmp_eq (tgt := 562) hx hb dL_law_557 (by decide) (fun _ => ?_) (fun h9 => absurd (congrArg nI h20) h9)
  refine lv_iload hx hb dL_law_562 (lv_at hl 1 rfl) ?_
  refine n_if_ne (tgt := 579) hx hb (by omega) dL_law_564 (by decide) (fun hz => ?_) (fun hz => ?_)
  · refine lv_goto (tgt := 1797) hx hb dL_law_579 (by decide) ?_
    refine W.widen (k := cells + 4) (n := slots + 40) (by omega) (by omega) ?_
    exact next g2 ad _ _ _ hR2 hIv2 hK2 hW hS (lv_sub hl [2, 3, 4, 5, 6, 7] rfl)
  · refine lv_aload_n hx hb dL_law_567 rfl (lv_at hl 4 rfl) ?_
    refine lv_iconst (v := nI 0) hx hb dL_law_568 (by decide) ?_
    refine r_lld M hW dL_law_569 ?_
    refine lv_iload hx hb dL_law_570 (lv_at hl 0 rfl) ?_
    refine lv_i2l hx hb dL_law_572 (hv hz).symm ?_
    refine W.lcmp hx hb dL_law_573 ?_
    refine W.eq (g2 := F0 m 574 ls [.int (nI 0)]) (congrArg (fun z => F0 m 574 ls [.int z]) (lcz _)) ?_
    refine n_if_eq (tgt := 579) hx hb (by decide) dL_law_574 (by decide) (fun _ => ?_) (fun h9 => absurd rfl h9)
    refine lv_goto (tgt := 1797) hx hb dL_law_579 (by decide) ?_
    refine W.widen (k := cells + 4) (n := slots + 40) (by omega) (by omega) ?_
    exact next g2 ad _ _ _ hR2 hIv2 hK2 hW hS (lv_sub hl [2, 3, 4, 5, 6, 7] rfl)

set_option maxHeartbeats 4000000 in
set_option maxRecDepth 100000 in
theorem lc_active {p : Program} {l : Launch} {e : Env} {s : State} {m : MethodId} {below : List Frame} {meth : Method} {c : Code} (hfl : l.stackTraces = false) {b L : Nat} {xs : Nat → Int32} {D : va_G} {Z : Nat → Nat} {N0 : Nat} {Q : State → Prop} (M : Mx p m c cL_law 9 s #[Value.ref b] wsL_law RL D Z N0) (hX : va_X b L xs s s.heap) (hbl : b < s.heap.size) (hbA : ¬ AA N0 b) (hL : L ≤ 2560) {k : Nat} (hk : 5 * k + 5 ≤ L) {g : T3} {ad : T2} {H : Heap} {locs : List Loc} {ls : Array Slot} {cells slots : Nat} (hc9 : cells + 4 ≤ 603072) (hs9 : slots + 40 ≤ 7219305) (hR : Rel g) (hIv : Iv g) (hK : Kv g) (hW : Wd D Z N0 g ad H) (hS : va_S (AA N0) s.heap H locs) (hl : lv_has ls 9 (lvL b ad k)) (next : LN p l e s m b below meth c D Z N0 Q k cells slots) : W p l e room_1 s m #[Value.ref b] below meth c H locs cells slots Q (F0 m 582 ls []) := by
  have hx := M.1.1
  have hb := M.1.2.1
  have hts := M.1.2.2.2.2
  have hO := hW.2.2.1
  have hl : lv_has ls 9 [(5, .int (nI (5 * k))), (4, .ref (ad 41 0)), (3, .ref (ad 40 0)), (2, .ref (ad 20 0)), (1, .ref (ad 0 0)), (0, .ref b)] := hl
  refine lv_aload_n hx hb dL_law_582 rfl (lv_at hl 4 rfl) ?_
  refine lv_aload_n hx hb dL_law_583 rfl (lv_at hl 5 rfl) ?_
  refine lv_iload hx hb dL_law_584 (lv_at hl 0 rfl) ?_
  refine lv_iconst (v := nI 1) hx hb dL_law_586 (by decide) ?_
  refine n_iadd hx hb dL_law_587 ?_
  refine r_sld M hX hbl hbA hS (by omega) (by omega) dL_law_588 ?_
  refine lv_aload_n hx hb dL_law_589 rfl (lv_at hl 2 rfl) ?_
  refine k_ci (vx_runSW (As := [.ref (ad 0 0), .int (xs (5 * k + 1)), .ref (ad 40 0)]) (rest := []) M.1 (c_L_active l hfl D Z N0 g ad (xs (5 * k + 1))) (vx_cwSW 3 hts gL_law_L_active rfl rfl rfl (by decide +kernel) ⟨(Nat.le_of_ble_eq_true rfl), (Nat.le_of_ble_eq_true rfl)⟩) (k_pS M hW hS) rfl rfl hl.1 rfl (lv_room (Nat.le_of_ble_eq_true rfl)) dL_law_590 ⟨(show cells + 1 ≤ 603072 by omega), (show slots + 6 ≤ 7219305 by omega)⟩) hS (fun r1 g1 H locs hp hW hS => ?_)
  obtain ⟨hf1, h1⟩ := hp
  refine lv_istore (lv' := [(6, .int (r1)), (5, .int (nI (5 * k))), (4, .ref (ad 41 0)), (3, .ref (ad 40 0)), (2, .ref (ad 20 0)), (1, .ref (ad 0 0)), (0, .ref b)]) hx hb dL_law_593 hl (by decide) rfl (fun ls hl => ?_)
  refine lv_aload_n hx hb dL_law_595 rfl (lv_at hl 4 rfl) ?_
  refine lv_aload_n hx hb dL_law_596 rfl (lv_at hl 6 rfl) ?_
  refine lv_iload hx hb dL_law_597 (lv_at hl 1 rfl) ?_
  refine lv_iconst (v := nI 1) hx hb dL_law_599 (by decide) ?_
  refine n_iadd hx hb dL_law_600 ?_
  refine r_sld M hX hbl hbA hS (by omega) (by omega) dL_law_601 ?_
  refine k_ci (k_rV (As := [.int (xs (5 * k + 1))]) (rest := []) M hW hS (c_X5_active l D Z N0 g1 ad (xs (5 * k + 1))) (cwV 1 hts gL_law_X5_active rfl rfl rfl (by decide +kernel) ⟨(Nat.le_of_ble_eq_true rfl), (Nat.le_of_ble_eq_true rfl)⟩) (r_recv M.2 hW 20 0 (lvM _) rfl rfl) rfl hl.1 rfl (Nat.le_of_ble_eq_true rfl) dL_law_602 ⟨(show (cells + 1) + 0 ≤ 603072 by omega), (show (slots + 6) + 0 ≤ 7219305 by omega)⟩) hS (fun r2 g2 H locs hp hW hS => ?_)
  obtain ⟨hf2, h2⟩ := hp
  have st9 := st_active (y := 0) (z := 0) (u := 0) (b := 0) hR hK hO h1 h2
  obtain ⟨kk, hk3, rfl, h20, hv, hR2, hK2⟩ := st9
  have hIv2 : Iv g2 := hIv.fr (hf1.trans hf2)
  refine lv_istore (lv' := [(7, .int (r2)), (6, .int (nI (kk))), (5, .int (nI (5 * k))), (4, .ref (ad 41 0)), (3, .ref (ad 40 0)), (2, .ref (ad 20 0)), (1, .ref (ad 0 0)), (0, .ref b)]) hx hb dL_law_605 hl (by decide) rfl (fun ls hl => ?_)
  refine lv_aload_n hx hb dL_law_607 rfl (lv_at hl 5 rfl) ?_
  refine k_ci (k_rV (As := []) (rest := []) M hW hS (c_X5_thrown l D Z N0 g2 ad) (cwV 0 hts gL_law_X5_thrown rfl rfl rfl (by decide +kernel) ⟨(Nat.le_of_ble_eq_true rfl), (Nat.le_of_ble_eq_true rfl)⟩) (r_recv M.2 hW 20 0 (lvM _) rfl rfl) rfl hl.1 rfl (Nat.le_of_ble_eq_true rfl) dL_law_608 ⟨(show ((cells + 1) + 0) + 0 ≤ 603072 by omega), (show ((slots + 6) + 0) + 0 ≤ 7219305 by omega)⟩) hS (fun r3 g3 H locs hp hW hS => ?_)
  obtain ⟨-, rfl, rfl⟩ := hp
  refine lv_iload hx hb dL_law_611 (lv_at hl 1 rfl) ?_
  refine lv_icmp_eq (tgt := 618) hx hb dL_law_613 (by decide) (fun _ => ?_) (fun h9 => absurd (congrArg nI h20) h9)
  refine lv_iload hx hb dL_law_618 (lv_at hl 1 rfl) ?_
  refine n_if_ne (tgt := 635) hx hb (by omega) dL_law_620 (by decide) (fun hz => ?_) (fun hz => ?_)
  · refine lv_goto (tgt := 1797) hx hb dL_law_635 (by decide) ?_
    refine W.widen (k := cells + 4) (n := slots + 40) (by omega) (by omega) ?_
    exact next g2 ad _ _ _ hR2 hIv2 hK2 hW hS (lv_sub hl [2, 3, 4, 5, 6, 7] rfl)
  · refine lv_aload_n hx hb dL_law_623 rfl (lv_at hl 4 rfl) ?_
    refine lv_iconst (v := nI 0) hx hb dL_law_624 (by decide) ?_
    refine r_lld M hW dL_law_625 ?_
    refine lv_iload hx hb dL_law_626 (lv_at hl 0 rfl) ?_
    refine lv_i2l hx hb dL_law_628 (hv hz).symm ?_
    refine W.lcmp hx hb dL_law_629 ?_
    refine W.eq (g2 := F0 m 630 ls [.int (nI 0)]) (congrArg (fun z => F0 m 630 ls [.int z]) (lcz _)) ?_
    refine n_if_eq (tgt := 635) hx hb (by decide) dL_law_630 (by decide) (fun _ => ?_) (fun h9 => absurd rfl h9)
    refine lv_goto (tgt := 1797) hx hb dL_law_635 (by decide) ?_
    refine W.widen (k := cells + 4) (n := slots + 40) (by omega) (by omega) ?_
    exact next g2 ad _ _ _ hR2 hIv2 hK2 hW hS (lv_sub hl [2, 3, 4, 5, 6, 7] rfl)

set_option maxHeartbeats 4000000 in
set_option maxRecDepth 100000 in
theorem lc_reason {p : Program} {l : Launch} {e : Env} {s : State} {m : MethodId} {below : List Frame} {meth : Method} {c : Code} (hfl : l.stackTraces = false) {b L : Nat} {xs : Nat → Int32} {D : va_G} {Z : Nat → Nat} {N0 : Nat} {Q : State → Prop} (M : Mx p m c cL_law 9 s #[Value.ref b] wsL_law RL D Z N0) (hX : va_X b L xs s s.heap) (hbl : b < s.heap.size) (hbA : ¬ AA N0 b) (hL : L ≤ 2560) {k : Nat} (hk : 5 * k + 5 ≤ L) {g : T3} {ad : T2} {H : Heap} {locs : List Loc} {ls : Array Slot} {cells slots : Nat} (hc9 : cells + 4 ≤ 603072) (hs9 : slots + 40 ≤ 7219305) (hR : Rel g) (hIv : Iv g) (hK : Kv g) (hW : Wd D Z N0 g ad H) (hS : va_S (AA N0) s.heap H locs) (hl : lv_has ls 9 (lvL b ad k)) (next : LN p l e s m b below meth c D Z N0 Q k cells slots) : W p l e room_1 s m #[Value.ref b] below meth c H locs cells slots Q (F0 m 638 ls []) := by
  have hx := M.1.1
  have hb := M.1.2.1
  have hts := M.1.2.2.2.2
  have hO := hW.2.2.1
  have hl : lv_has ls 9 [(5, .int (nI (5 * k))), (4, .ref (ad 41 0)), (3, .ref (ad 40 0)), (2, .ref (ad 20 0)), (1, .ref (ad 0 0)), (0, .ref b)] := hl
  refine lv_aload_n hx hb dL_law_638 rfl (lv_at hl 4 rfl) ?_
  refine lv_aload_n hx hb dL_law_639 rfl (lv_at hl 5 rfl) ?_
  refine lv_iload hx hb dL_law_640 (lv_at hl 0 rfl) ?_
  refine lv_iconst (v := nI 1) hx hb dL_law_642 (by decide) ?_
  refine n_iadd hx hb dL_law_643 ?_
  refine r_sld M hX hbl hbA hS (by omega) (by omega) dL_law_644 ?_
  refine lv_aload_n hx hb dL_law_645 rfl (lv_at hl 5 rfl) ?_
  refine lv_iload hx hb dL_law_646 (lv_at hl 0 rfl) ?_
  refine lv_iconst (v := nI 2) hx hb dL_law_648 (by decide) ?_
  refine n_iadd hx hb dL_law_649 ?_
  refine r_sld M hX hbl hbA hS (by omega) (by omega) dL_law_650 ?_
  refine lv_aload_n hx hb dL_law_651 rfl (lv_at hl 2 rfl) ?_
  refine k_ci (vx_runSW (As := [.ref (ad 0 0), .int (xs (5 * k + 1)), .int (xs (5 * k + 2)), .ref (ad 40 0)]) (rest := []) M.1 (c_L_reason l hfl D Z N0 g ad (xs (5 * k + 1)) (xs (5 * k + 2))) (vx_cwSW 4 hts gL_law_L_reason rfl rfl rfl (by decide +kernel) ⟨(Nat.le_of_ble_eq_true rfl), (Nat.le_of_ble_eq_true rfl)⟩) (k_pS M hW hS) rfl rfl hl.1 rfl (lv_room (Nat.le_of_ble_eq_true rfl)) dL_law_652 ⟨(show cells + 2 ≤ 603072 by omega), (show slots + 12 ≤ 7219305 by omega)⟩) hS (fun r1 g1 H locs hp hW hS => ?_)
  obtain ⟨hf1, h1⟩ := hp
  refine lv_istore (lv' := [(6, .int (r1)), (5, .int (nI (5 * k))), (4, .ref (ad 41 0)), (3, .ref (ad 40 0)), (2, .ref (ad 20 0)), (1, .ref (ad 0 0)), (0, .ref b)]) hx hb dL_law_655 hl (by decide) rfl (fun ls hl => ?_)
  refine lv_aload_n hx hb dL_law_657 rfl (lv_at hl 4 rfl) ?_
  refine lv_aload_n hx hb dL_law_658 rfl (lv_at hl 6 rfl) ?_
  refine lv_iload hx hb dL_law_659 (lv_at hl 1 rfl) ?_
  refine lv_iconst (v := nI 1) hx hb dL_law_661 (by decide) ?_
  refine n_iadd hx hb dL_law_662 ?_
  refine r_sld M hX hbl hbA hS (by omega) (by omega) dL_law_663 ?_
  refine lv_aload_n hx hb dL_law_664 rfl (lv_at hl 6 rfl) ?_
  refine lv_iload hx hb dL_law_665 (lv_at hl 1 rfl) ?_
  refine lv_iconst (v := nI 2) hx hb dL_law_667 (by decide) ?_
  refine n_iadd hx hb dL_law_668 ?_
  refine r_sld M hX hbl hbA hS (by omega) (by omega) dL_law_669 ?_
  refine k_ci (k_rV (As := [.int (xs (5 * k + 1)), .int (xs (5 * k + 2))]) (rest := []) M hW hS (c_X5_reason l D Z N0 g1 ad (xs (5 * k + 1)) (xs (5 * k + 2))) (cwV 2 hts gL_law_X5_reason rfl rfl rfl (by decide +kernel) ⟨(Nat.le_of_ble_eq_true rfl), (Nat.le_of_ble_eq_true rfl)⟩) (r_recv M.2 hW 20 0 (lvM _) rfl rfl) rfl hl.1 rfl (Nat.le_of_ble_eq_true rfl) dL_law_670 ⟨(show (cells + 2) + 0 ≤ 603072 by omega), (show (slots + 12) + 0 ≤ 7219305 by omega)⟩) hS (fun r2 g2 H locs hp hW hS => ?_)
  obtain ⟨hf2, h2⟩ := hp
  have st9 := st_reason (z := 0) (u := 0) (b := 0) hR hK hO h1 h2
  obtain ⟨kk, hk3, rfl, h20, hv, hR2, hK2⟩ := st9
  have hIv2 : Iv g2 := hIv.fr (hf1.trans hf2)
  refine lv_istore (lv' := [(7, .int (r2)), (6, .int (nI (kk))), (5, .int (nI (5 * k))), (4, .ref (ad 41 0)), (3, .ref (ad 40 0)), (2, .ref (ad 20 0)), (1, .ref (ad 0 0)), (0, .ref b)]) hx hb dL_law_673 hl (by decide) rfl (fun ls hl => ?_)
  refine lv_aload_n hx hb dL_law_675 rfl (lv_at hl 5 rfl) ?_
  refine k_ci (k_rV (As := []) (rest := []) M hW hS (c_X5_thrown l D Z N0 g2 ad) (cwV 0 hts gL_law_X5_thrown rfl rfl rfl (by decide +kernel) ⟨(Nat.le_of_ble_eq_true rfl), (Nat.le_of_ble_eq_true rfl)⟩) (r_recv M.2 hW 20 0 (lvM _) rfl rfl) rfl hl.1 rfl (Nat.le_of_ble_eq_true rfl) dL_law_676 ⟨(show ((cells + 2) + 0) + 0 ≤ 603072 by omega), (show ((slots + 12) + 0) + 0 ≤ 7219305 by omega)⟩) hS (fun r3 g3 H locs hp hW hS => ?_)
  obtain ⟨-, rfl, rfl⟩ := hp
  refine lv_iload hx hb dL_law_679 (lv_at hl 1 rfl) ?_
  refine lv_icmp_eq (tgt := 686) hx hb dL_law_681 (by decide) (fun _ => ?_) (fun h9 => absurd (congrArg nI h20) h9)
  refine lv_iload hx hb dL_law_686 (lv_at hl 1 rfl) ?_
  refine n_if_ne (tgt := 703) hx hb (by omega) dL_law_688 (by decide) (fun hz => ?_) (fun hz => ?_)
  · refine lv_goto (tgt := 1797) hx hb dL_law_703 (by decide) ?_
    refine W.widen (k := cells + 4) (n := slots + 40) (by omega) (by omega) ?_
    exact next g2 ad _ _ _ hR2 hIv2 hK2 hW hS (lv_sub hl [2, 3, 4, 5, 6, 7] rfl)
  · refine lv_aload_n hx hb dL_law_691 rfl (lv_at hl 4 rfl) ?_
    refine lv_iconst (v := nI 0) hx hb dL_law_692 (by decide) ?_
    refine r_lld M hW dL_law_693 ?_
    refine lv_iload hx hb dL_law_694 (lv_at hl 0 rfl) ?_
    refine lv_i2l hx hb dL_law_696 (hv hz).symm ?_
    refine W.lcmp hx hb dL_law_697 ?_
    refine W.eq (g2 := F0 m 698 ls [.int (nI 0)]) (congrArg (fun z => F0 m 698 ls [.int z]) (lcz _)) ?_
    refine n_if_eq (tgt := 703) hx hb (by decide) dL_law_698 (by decide) (fun _ => ?_) (fun h9 => absurd rfl h9)
    refine lv_goto (tgt := 1797) hx hb dL_law_703 (by decide) ?_
    refine W.widen (k := cells + 4) (n := slots + 40) (by omega) (by omega) ?_
    exact next g2 ad _ _ _ hR2 hIv2 hK2 hW hS (lv_sub hl [2, 3, 4, 5, 6, 7] rfl)
