set_option maxHeartbeats 4000000 in
set_option maxRecDepth 100000 in
theorem c_X4_startSlot (l : Launch) (D : va_G) (Z : Nat → Nat) (N0 : Nat) (g : T3) (ad : T2) (i s p : Nat) (hl10 : lv g 10 i) (hs1 : s ≤ 1) (hp2 : p < 2) : Met l yX4_startSlot wsX4_startSlot ({ frames := 2, cells := 0, slots := 0, locals := 140 } : Room) (PC D Z N0 g ad [.ref (ad 0 0), .ref (ad 10 i), .int (nI (s)), .ref (ad 5 p)]) (QI D Z N0 ad (fun (r : Int32) (g1 : T3) => Fr g g1 ∧ (r = nI (sSlot g i s p).1 ∧ g1 = (sSlot g i s p).2))) 0 0 (AA N0) := by
  refine Met.ofW (cc := cX4_startSlot) (maxL := 6) (ret := (some .boolean)) (by decide) rfl ?_
  intro pP eP sP mP args below meth cP s₁ B hmlP hvP
  obtain ⟨rfl, hW, hC⟩ := hvP
  have hx := B.exec
  have hb := B.bytes
  have hr := B.returns
  have hts := atoms_spec (ws := wsX4_startSlot) B.pre
  have hown : sP.vm.findClass RX4 = some mP.cls := findClass_of_methodNamed B.named
  have hlocks := B.notSynchronized
  have i_X3 : ∀ w ∈ wsX30, w ∈ wsX4_startSlot := (fun _ h => List.mem_cons_of_mem _ (List.mem_append_left _ (List.mem_append_left _ (List.mem_append_left _ (List.mem_append_left _ (List.mem_append_right _ h))))))
  have k_246 : Cond.fieldLink RX4 246 "StartChain$Stage" "images" "[LStartChain$Image;" ∈ wsX4_startSlot := by decide +kernel
  have k_268 : Cond.fieldLink RX4 268 "StartChain$Stage" "register" "I" ∈ wsX4_startSlot := by decide +kernel
  have i_X0 : ∀ w ∈ wsX00, w ∈ wsX4_startSlot := (fun _ h => List.mem_cons_of_mem _ (List.mem_append_left _ (List.mem_append_left _ (List.mem_append_left _ (List.mem_append_right _ h)))))
  have k_271 : Cond.fieldLink RX4 271 "StartChain$Image" "measure" "I" ∈ wsX4_startSlot := by decide +kernel
  have k_102 : Cond.fieldLink RX4 102 "StartChain$Image" "version" "I" ∈ wsX4_startSlot := by decide +kernel
  have k_105 : Cond.fieldLink RX4 105 "StartChain$Stage" "active" "I" ∈ wsX4_startSlot := by decide +kernel
  have M : Mx pP mP cP cX4_startSlot 6 sP ([.ref (ad 0 0), .ref (ad 10 i), .int (nI (s)), .ref (ad 5 p)] : List Value).toArray wsX4_startSlot RX4 D Z N0 := ⟨⟨hx, hb, hmlP, hown, hts⟩, hC⟩
  have hf : Fr g g := Fr.rf g
  have hS : va_S (AA N0) sP.heap sP.heap [] := va_S.rf
  have hl := lv_entry ([.ref (ad 0 0), .ref (ad 10 i), .int (nI (s)), .ref (ad 5 p)]) (n := 6) (Nat.le_of_ble_eq_true rfl)
  rw [lg_entry_eq]
  generalize (lg_sl ([.ref (ad 0 0), .ref (ad 10 i), .int (nI (s)), .ref (ad 5 p)]) ++ List.replicate (6 - (lg_sl ([.ref (ad 0 0), .ref (ad 10 i), .int (nI (s)), .ref (ad 5 p)])).length) Slot.unset).toArray = ls at hl ⊢
  have hl : lv_has ls 6 [(0, .ref (ad 0 0)), (1, .ref (ad 10 i)), (2, .int (nI (s))), (3, .ref (ad 5 p))] := hl
  refine lv_aload_n hx hb dX4_startSlot_0 rfl (lv_at hl 1 rfl) ?_
  refine r_get M hW 10 i (hf.lv hl10) (v := .ref (ad 11 i)) rfl rfl i_X3 1 (by decide) k_246 (fun _ h9 => h9) rfl dX4_startSlot_1 ?_
  refine lv_iload_n hx hb dX4_startSlot_4 rfl (lv_at hl 2 rfl) ?_
  refine r_aald M hW 11 i (hf.lv hl10) (t := 3) (C := "StartChain$Image") rfl rfl (Nat.lt_of_le_of_lt hs1 (by decide)) (by decide) dX4_startSlot_5 ?_
  by_cases c1_z : g 11 i s = 0
  · refine W.eq (g2 := F0 mP 6 ls (.null :: [])) (congrArg (fun z => F0 mP 6 ls (va_rf z :: [])) (if_pos c1_z)) ?_
    refine lv_astoreN (lv' := [(4, .null), (0, .ref (ad 0 0)), (1, .ref (ad 10 i)), (2, .int (nI (s))), (3, .ref (ad 5 p))]) hx hb dX4_startSlot_6 hl (by decide) rfl (fun ls hl => ?_)
    refine lv_aload_n hx hb dX4_startSlot_8 rfl (lv_at hl 1 rfl) ?_
    refine lv_aload_n hx hb dX4_startSlot_9 rfl (lv_at hl 2 rfl) ?_
    refine lv_iload_n hx hb dX4_startSlot_10 rfl (lv_at hl 3 rfl) ?_
    refine k_ci (k_rV (As := [.ref (ad 10 i), .int (nI (s))]) (rest := []) M hW hS (c_X4_judge l D Z N0 g ad i s (hf.lv hl10) (Nat.lt_of_le_of_lt hs1 (by decide))) (cwV 2 hts gX4_startSlot_X4_judge rfl rfl rfl (by decide +kernel) ⟨Nat.le_of_ble_eq_true rfl, Nat.le_of_ble_eq_true rfl⟩) (r_recv M.2 hW 0 0 (lv0 _) rfl rfl) rfl hl.1 rfl (Nat.le_of_ble_eq_true rfl) dX4_startSlot_11 ⟨Nat.le_of_ble_eq_true rfl, Nat.le_of_ble_eq_true rfl⟩) hS (fun r3_z g2_z H locs hp hW hS => ?_)
    obtain ⟨hf1, hp⟩ := hp
    have hf : Fr g g2_z := hf.trans hf1
    obtain ⟨rfl, hg⟩ := hp
    subst hg
    refine lv_istore (lv' := [(5, .int (nI (jg g i s))), (4, .null), (0, .ref (ad 0 0)), (1, .ref (ad 10 i)), (2, .int (nI (s))), (3, .ref (ad 5 p))]) hx hb dX4_startSlot_14 hl (by decide) rfl (fun ls hl => ?_)
    refine lv_aloadN hx hb dX4_startSlot_16 (lv_at hl 1 rfl) ?_
    refine lv_ifnullN (tgt := 35) hx hb dX4_startSlot_18 (by decide) ?_
    refine lv_iconst (v := nI 0) hx hb dX4_startSlot_35 (by decide) ?_
    -- path 1
    exact W.zret (v := nI (0)) (ty := .boolean) hx hb hr (nar_b (show 0 ≤ 1 by decide)) (fun t ht hW9 => ⟨⟨nI (0), g, rfl, ⟨hf, (by simp only [sSlot, if_pos c1_z, and_self, true_and])⟩, (show Wd D Z N0 g ad t.heap by rw [ht]; exact hW)⟩, hS.F ht⟩) hS.2.2 dX4_startSlot_36
  · refine W.eq (g2 := F0 mP 6 ls (.ref (ad 12 (2 * i + s)) :: [])) (congrArg (fun z => F0 mP 6 ls (va_rf z :: [])) (if_neg c1_z)) ?_
    have hl4_z : lv g 12 (2 * i + s) := lv12 (hf.lv hl10) (Nat.lt_of_le_of_lt hs1 (by decide)) c1_z
    refine lv_astore (lv' := [(4, .ref (ad 12 (2 * i + s))), (0, .ref (ad 0 0)), (1, .ref (ad 10 i)), (2, .int (nI (s))), (3, .ref (ad 5 p))]) hx hb dX4_startSlot_6 hl (by decide) rfl (fun ls hl => ?_)
    refine lv_aload_n hx hb dX4_startSlot_8 rfl (lv_at hl 1 rfl) ?_
    refine lv_aload_n hx hb dX4_startSlot_9 rfl (lv_at hl 2 rfl) ?_
    refine lv_iload_n hx hb dX4_startSlot_10 rfl (lv_at hl 3 rfl) ?_
    refine k_ci (k_rV (As := [.ref (ad 10 i), .int (nI (s))]) (rest := []) M hW hS (c_X4_judge l D Z N0 g ad i s (hf.lv hl10) (Nat.lt_of_le_of_lt hs1 (by decide))) (cwV 2 hts gX4_startSlot_X4_judge rfl rfl rfl (by decide +kernel) ⟨Nat.le_of_ble_eq_true rfl, Nat.le_of_ble_eq_true rfl⟩) (r_recv M.2 hW 0 0 (lv0 _) rfl rfl) rfl hl.1 rfl (Nat.le_of_ble_eq_true rfl) dX4_startSlot_11 ⟨Nat.le_of_ble_eq_true rfl, Nat.le_of_ble_eq_true rfl⟩) hS (fun r6_z g5_z H locs hp hW hS => ?_)
    obtain ⟨hf1, hp⟩ := hp
    have hf : Fr g g5_z := hf.trans hf1
    obtain ⟨rfl, hg⟩ := hp
    subst hg
    refine lv_istore (lv' := [(5, .int (nI (jg g i s))), (4, .ref (ad 12 (2 * i + s))), (0, .ref (ad 0 0)), (1, .ref (ad 10 i)), (2, .int (nI (s))), (3, .ref (ad 5 p))]) hx hb dX4_startSlot_14 hl (by decide) rfl (fun ls hl => ?_)
    refine lv_aload hx hb dX4_startSlot_16 (lv_at hl 1 rfl) ?_
    refine lv_ifnull hx hb dX4_startSlot_18 ?_
    refine lv_iload hx hb dX4_startSlot_21 (lv_at hl 0 rfl) ?_
    refine lv_bipush (v := nI 45) hx hb dX4_startSlot_23 (by decide) ?_
    refine n_icmp_eq (tgt := 37) hx hb (Nat.lt_of_le_of_lt (jg_le g i s) (by decide)) (by decide) dX4_startSlot_25 (by decide) (fun c7_z => ?_) (fun c7_z => ?_)
    · refine lv_aload_n hx hb dX4_startSlot_37 rfl (lv_at hl 5 rfl) ?_
      refine lv_aload_n hx hb dX4_startSlot_38 rfl (lv_at hl 3 rfl) ?_
      have b8_z : g 10 i 0 ≤ 2 := hW.2.2.1.le 10 i 0 1 rfl
      refine r_get M hW 10 i (hf.lv hl10) (v := .int (nI (g 10 i 0))) rfl rfl i_X3 0 (by decide) k_268 (fun _ h9 => h9) rfl dX4_startSlot_39 ?_
      refine lv_aload hx hb dX4_startSlot_42 (lv_at hl 1 rfl) ?_
      have b9_z : g 12 (2 * i + s) 2 ≤ 999 := hW.2.2.1.le 12 (2 * i + s) 2 998 rfl
      refine r_get M hW 12 (2 * i + s) (hf.lv hl4_z) (v := .int (nI (g 12 (2 * i + s) 2))) rfl rfl i_X0 2 (by decide) k_271 (fun _ h9 => h9) rfl dX4_startSlot_44 ?_
      refine k_cv (k_rV (As := [.int (nI (g 10 i 0)), .int (nI (g 12 (2 * i + s) 2))]) (rest := []) M hW hS (c_X1_addMeasure l D Z N0 g ad p (g 10 i 0) (g 12 (2 * i + s) 2) hp2 b8_z b9_z) (cwV 2 hts gX4_startSlot_X1_addMeasure rfl rfl rfl (by decide +kernel) ⟨Nat.le_of_ble_eq_true rfl, Nat.le_of_ble_eq_true rfl⟩) (r_recv M.2 hW 5 p hp2 rfl rfl) rfl hl.1 rfl (Nat.le_of_ble_eq_true rfl) dX4_startSlot_47 ⟨Nat.le_of_ble_eq_true rfl, Nat.le_of_ble_eq_true rfl⟩) hS (fun g10_z H locs hp hW hS => ?_)
      obtain ⟨hf1, hp⟩ := hp
      have hf : Fr g g10_z := hf.trans hf1
      have eg10_z : g10_z = adm g p (g 10 i 0) (g 12 (2 * i + s) 2) := hp
      refine lv_iload hx hb dX4_startSlot_50 (lv_at hl 0 rfl) ?_
      refine lv_bipush (v := nI 98) hx hb dX4_startSlot_52 (by decide) ?_
      refine n_icmp_ne (tgt := 59) hx hb (Nat.lt_of_le_of_lt (jg_le g i s) (by decide)) (by decide) dX4_startSlot_54 (by decide) (fun c12_z => ?_) (fun c12_z => ?_)
      · refine lv_aload_n hx hb dX4_startSlot_59 rfl (lv_at hl 5 rfl) ?_
        refine lv_iload_n hx hb dX4_startSlot_60 rfl (lv_at hl 4 rfl) ?_
        refine lv_aload hx hb dX4_startSlot_61 (lv_at hl 1 rfl) ?_
        have b13_z : g10_z 12 (2 * i + s) 1 ≤ 99 := hW.2.2.1.le 12 (2 * i + s) 1 98 rfl
        refine r_get M hW 12 (2 * i + s) (hf.lv hl4_z) (v := .int (nI (g10_z 12 (2 * i + s) 1))) rfl rfl i_X0 1 (by decide) k_102 (fun _ h9 => h9) rfl dX4_startSlot_63 ?_
        refine lv_iload_n hx hb dX4_startSlot_66 rfl (lv_at hl 4 rfl) ?_
        refine lv_aload_n hx hb dX4_startSlot_67 rfl (lv_at hl 3 rfl) ?_
        have b14_z : g10_z 10 i 2 ≤ 1 := hW.2.2.1.le 10 i 2 0 rfl
        refine r_get M hW 10 i (hf.lv hl10) (v := .int (nI (g10_z 10 i 2))) rfl rfl i_X3 2 (by decide) k_105 (fun _ h9 => h9) rfl dX4_startSlot_68 ?_
        refine n_icmp_eq (tgt := 78) hx hb (Nat.lt_of_le_of_lt hs1 (by decide)) (Nat.lt_of_le_of_lt b14_z (by decide)) dX4_startSlot_71 (by decide) (fun c15_z => ?_) (fun c15_z => ?_)
        · refine lv_iconst (v := nI 0) hx hb dX4_startSlot_78 (by decide) ?_
          refine k_cv (k_rV (As := [.int (nI (s)), .int (nI (g10_z 12 (2 * i + s) 1)), .int (nI (0))]) (rest := []) M hW hS (c_X1_addRun l D Z N0 g10_z ad p s (g10_z 12 (2 * i + s) 1) 0 hp2 hs1 b13_z (show 0 ≤ 1 by decide)) (cwV 3 hts gX4_startSlot_X1_addRun rfl rfl rfl (by decide +kernel) ⟨Nat.le_of_ble_eq_true rfl, Nat.le_of_ble_eq_true rfl⟩) (r_recv M.2 hW 5 p hp2 rfl rfl) rfl hl.1 rfl (Nat.le_of_ble_eq_true rfl) dX4_startSlot_79 ⟨Nat.le_of_ble_eq_true rfl, Nat.le_of_ble_eq_true rfl⟩) hS (fun g16_z H locs hp hW hS => ?_)
          obtain ⟨hf1, hp⟩ := hp
          have hf : Fr g g16_z := hf.trans hf1
          have eg16_z : g16_z = adr g10_z p s (g10_z 12 (2 * i + s) 1) 0 := hp
          refine lv_iconst (v := nI 1) hx hb dX4_startSlot_82 (by decide) ?_
          -- path 2
          exact W.zret (v := nI (1)) (ty := .boolean) hx hb hr (nar_b (show 1 ≤ 1 by decide)) (fun t ht hW9 => ⟨⟨nI (1), g16_z, rfl, ⟨hf, (by subst eg16_z eg10_z; simp only [sSlot, if_neg c1_z, if_pos c7_z, if_neg c12_z, if_pos c15_z, and_self, true_and])⟩, (show Wd D Z N0 g16_z ad t.heap by rw [ht]; exact hW)⟩, hS.F ht⟩) hS.2.2 dX4_startSlot_83
        · refine lv_iconst (v := nI 1) hx hb dX4_startSlot_74 (by decide) ?_
          refine lv_goto (tgt := 79) hx hb dX4_startSlot_75 (by decide) ?_
          refine k_cv (k_rV (As := [.int (nI (s)), .int (nI (g10_z 12 (2 * i + s) 1)), .int (nI (1))]) (rest := []) M hW hS (c_X1_addRun l D Z N0 g10_z ad p s (g10_z 12 (2 * i + s) 1) 1 hp2 hs1 b13_z (show 1 ≤ 1 by decide)) (cwV 3 hts gX4_startSlot_X1_addRun rfl rfl rfl (by decide +kernel) ⟨Nat.le_of_ble_eq_true rfl, Nat.le_of_ble_eq_true rfl⟩) (r_recv M.2 hW 5 p hp2 rfl rfl) rfl hl.1 rfl (Nat.le_of_ble_eq_true rfl) dX4_startSlot_79 ⟨Nat.le_of_ble_eq_true rfl, Nat.le_of_ble_eq_true rfl⟩) hS (fun g18_z H locs hp hW hS => ?_)
          obtain ⟨hf1, hp⟩ := hp
          have hf : Fr g g18_z := hf.trans hf1
          have eg18_z : g18_z = adr g10_z p s (g10_z 12 (2 * i + s) 1) 1 := hp
          refine lv_iconst (v := nI 1) hx hb dX4_startSlot_82 (by decide) ?_
          -- path 3
          exact W.zret (v := nI (1)) (ty := .boolean) hx hb hr (nar_b (show 1 ≤ 1 by decide)) (fun t ht hW9 => ⟨⟨nI (1), g18_z, rfl, ⟨hf, (by subst eg18_z eg10_z; simp only [sSlot, if_neg c1_z, if_pos c7_z, if_neg c12_z, if_neg c15_z, and_self, true_and])⟩, (show Wd D Z N0 g18_z ad t.heap by rw [ht]; exact hW)⟩, hS.F ht⟩) hS.2.2 dX4_startSlot_83
      · exact absurd (c7_z.symm.trans c12_z) (by decide)
    · refine lv_iload hx hb dX4_startSlot_28 (lv_at hl 0 rfl) ?_
      refine lv_bipush (v := nI 98) hx hb dX4_startSlot_30 (by decide) ?_
      refine n_icmp_eq (tgt := 37) hx hb (Nat.lt_of_le_of_lt (jg_le g i s) (by decide)) (by decide) dX4_startSlot_32 (by decide) (fun c20_z => ?_) (fun c20_z => ?_)
      · refine lv_aload_n hx hb dX4_startSlot_37 rfl (lv_at hl 5 rfl) ?_
        refine lv_aload_n hx hb dX4_startSlot_38 rfl (lv_at hl 3 rfl) ?_
        have b21_z : g 10 i 0 ≤ 2 := hW.2.2.1.le 10 i 0 1 rfl
        refine r_get M hW 10 i (hf.lv hl10) (v := .int (nI (g 10 i 0))) rfl rfl i_X3 0 (by decide) k_268 (fun _ h9 => h9) rfl dX4_startSlot_39 ?_
        refine lv_aload hx hb dX4_startSlot_42 (lv_at hl 1 rfl) ?_
        have b22_z : g 12 (2 * i + s) 2 ≤ 999 := hW.2.2.1.le 12 (2 * i + s) 2 998 rfl
        refine r_get M hW 12 (2 * i + s) (hf.lv hl4_z) (v := .int (nI (g 12 (2 * i + s) 2))) rfl rfl i_X0 2 (by decide) k_271 (fun _ h9 => h9) rfl dX4_startSlot_44 ?_
        refine k_cv (k_rV (As := [.int (nI (g 10 i 0)), .int (nI (g 12 (2 * i + s) 2))]) (rest := []) M hW hS (c_X1_addMeasure l D Z N0 g ad p (g 10 i 0) (g 12 (2 * i + s) 2) hp2 b21_z b22_z) (cwV 2 hts gX4_startSlot_X1_addMeasure rfl rfl rfl (by decide +kernel) ⟨Nat.le_of_ble_eq_true rfl, Nat.le_of_ble_eq_true rfl⟩) (r_recv M.2 hW 5 p hp2 rfl rfl) rfl hl.1 rfl (Nat.le_of_ble_eq_true rfl) dX4_startSlot_47 ⟨Nat.le_of_ble_eq_true rfl, Nat.le_of_ble_eq_true rfl⟩) hS (fun g23_z H locs hp hW hS => ?_)
        obtain ⟨hf1, hp⟩ := hp
        have hf : Fr g g23_z := hf.trans hf1
        have eg23_z : g23_z = adm g p (g 10 i 0) (g 12 (2 * i + s) 2) := hp
        refine lv_iload hx hb dX4_startSlot_50 (lv_at hl 0 rfl) ?_
        refine lv_bipush (v := nI 98) hx hb dX4_startSlot_52 (by decide) ?_
        refine n_icmp_ne (tgt := 59) hx hb (Nat.lt_of_le_of_lt (jg_le g i s) (by decide)) (by decide) dX4_startSlot_54 (by decide) (fun c25_z => ?_) (fun c25_z => ?_)
        · exact absurd c20_z c25_z
        · refine lv_iconst (v := nI 0) hx hb dX4_startSlot_57 (by decide) ?_
          -- path 4
          exact W.zret (v := nI (0)) (ty := .boolean) hx hb hr (nar_b (show 0 ≤ 1 by decide)) (fun t ht hW9 => ⟨⟨nI (0), g23_z, rfl, ⟨hf, (by subst eg23_z; simp only [sSlot, if_neg c1_z, if_neg c7_z, if_pos c20_z, if_pos c25_z, and_self, true_and])⟩, (show Wd D Z N0 g23_z ad t.heap by rw [ht]; exact hW)⟩, hS.F ht⟩) hS.2.2 dX4_startSlot_58
      · refine lv_iconst (v := nI 0) hx hb dX4_startSlot_35 (by decide) ?_
        -- path 5
        exact W.zret (v := nI (0)) (ty := .boolean) hx hb hr (nar_b (show 0 ≤ 1 by decide)) (fun t ht hW9 => ⟨⟨nI (0), g, rfl, ⟨hf, (by simp only [sSlot, if_neg c1_z, if_neg c7_z, if_neg c20_z, and_self, true_and])⟩, (show Wd D Z N0 g ad t.heap by rw [ht]; exact hW)⟩, hS.F ht⟩) hS.2.2 dX4_startSlot_36

set_option maxHeartbeats 4000000 in
set_option maxRecDepth 100000 in
theorem c_X4_startStage (l : Launch) (D : va_G) (Z : Nat → Nat) (N0 : Nat) (g : T3) (ad : T2) (i p : Nat) (hl10 : lv g 10 i) (hp2 : p < 2) : Met l yX4_startStage wsX4_startStage ({ frames := 3, cells := 0, slots := 0, locals := 180 } : Room) (PC D Z N0 g ad [.ref (ad 0 0), .ref (ad 10 i), .ref (ad 5 p)]) (QI D Z N0 ad (fun (r : Int32) (g1 : T3) => Fr g g1 ∧ (r = nI (sStage g i p).1 ∧ g1 = (sStage g i p).2))) 0 0 (AA N0) := by
  refine Met.ofW (cc := cX4_startStage) (maxL := 3) (ret := (some .boolean)) (by decide) rfl ?_
  intro pP eP sP mP args below meth cP s₁ B hmlP hvP
  obtain ⟨rfl, hW, hC⟩ := hvP
  have hx := B.exec
  have hb := B.bytes
  have hr := B.returns
  have hts := atoms_spec (ws := wsX4_startStage) B.pre
  have hown : sP.vm.findClass RX4 = some mP.cls := findClass_of_methodNamed B.named
  have hlocks := B.notSynchronized
  have i_X3 : ∀ w ∈ wsX30, w ∈ wsX4_startStage := (fun _ h => List.mem_cons_of_mem _ (List.mem_append_left _ (List.mem_append_left _ (List.mem_append_left _ (List.mem_append_left _ (List.mem_append_right _ h))))))
  have k_105 : Cond.fieldLink RX4 105 "StartChain$Stage" "active" "I" ∈ wsX4_startStage := by decide +kernel
  have M : Mx pP mP cP cX4_startStage 3 sP ([.ref (ad 0 0), .ref (ad 10 i), .ref (ad 5 p)] : List Value).toArray wsX4_startStage RX4 D Z N0 := ⟨⟨hx, hb, hmlP, hown, hts⟩, hC⟩
  have hf : Fr g g := Fr.rf g
  have hS : va_S (AA N0) sP.heap sP.heap [] := va_S.rf
  have hl := lv_entry ([.ref (ad 0 0), .ref (ad 10 i), .ref (ad 5 p)]) (n := 3) (Nat.le_of_ble_eq_true rfl)
  rw [lg_entry_eq]
  generalize (lg_sl ([.ref (ad 0 0), .ref (ad 10 i), .ref (ad 5 p)]) ++ List.replicate (3 - (lg_sl ([.ref (ad 0 0), .ref (ad 10 i), .ref (ad 5 p)])).length) Slot.unset).toArray = ls at hl ⊢
  have hl : lv_has ls 3 [(0, .ref (ad 0 0)), (1, .ref (ad 10 i)), (2, .ref (ad 5 p))] := hl
  refine lv_aload_n hx hb dX4_startStage_0 rfl (lv_at hl 0 rfl) ?_
  refine lv_aload_n hx hb dX4_startStage_1 rfl (lv_at hl 1 rfl) ?_
  refine lv_aload_n hx hb dX4_startStage_2 rfl (lv_at hl 1 rfl) ?_
  have b1_z : g 10 i 2 ≤ 1 := hW.2.2.1.le 10 i 2 0 rfl
  refine r_get M hW 10 i (hf.lv hl10) (v := .int (nI (g 10 i 2))) rfl rfl i_X3 2 (by decide) k_105 (fun _ h9 => h9) rfl dX4_startStage_3 ?_
  refine lv_aload_n hx hb dX4_startStage_6 rfl (lv_at hl 2 rfl) ?_
  refine k_ci (k_rV (As := [.ref (ad 10 i), .int (nI (g 10 i 2)), .ref (ad 5 p)]) (rest := []) M hW hS (c_X4_startSlot l D Z N0 g ad i (g 10 i 2) p (hf.lv hl10) b1_z hp2) (cwV 3 hts gX4_startStage_X4_startSlot rfl rfl rfl (by decide +kernel) ⟨Nat.le_of_ble_eq_true rfl, Nat.le_of_ble_eq_true rfl⟩) (r_recv M.2 hW 0 0 (lv0 _) rfl rfl) rfl hl.1 rfl (Nat.le_of_ble_eq_true rfl) dX4_startStage_7 ⟨Nat.le_of_ble_eq_true rfl, Nat.le_of_ble_eq_true rfl⟩) hS (fun r3_z g2_z H locs hp hW hS => ?_)
  obtain ⟨hf1, hp⟩ := hp
  have hf : Fr g g2_z := hf.trans hf1
  obtain ⟨rfl, eg2_z⟩ := hp
  refine n_if_ne (tgt := 26) hx hb (Nat.lt_of_le_of_lt (sSlot_le _ _ _ _) (by decide)) dX4_startStage_10 (by decide) (fun c4_z => ?_) (fun c4_z => ?_)
  · refine lv_iconst (v := nI 1) hx hb dX4_startStage_26 (by decide) ?_
    refine lv_goto (tgt := 31) hx hb dX4_startStage_27 (by decide) ?_
    -- path 1
    exact W.zret (v := nI (1)) (ty := .boolean) hx hb hr (nar_b (show 1 ≤ 1 by decide)) (fun t ht hW9 => ⟨⟨nI (1), g2_z, rfl, ⟨hf, (by subst eg2_z; simp only [sStage, if_neg c4_z, and_self, true_and])⟩, (show Wd D Z N0 g2_z ad t.heap by rw [ht]; exact hW)⟩, hS.F ht⟩) hS.2.2 dX4_startStage_31
  · refine lv_aload_n hx hb dX4_startStage_13 rfl (lv_at hl 0 rfl) ?_
    refine lv_aload_n hx hb dX4_startStage_14 rfl (lv_at hl 1 rfl) ?_
    refine lv_aload_n hx hb dX4_startStage_15 rfl (lv_at hl 1 rfl) ?_
    refine k_ci (k_rV (As := []) (rest := [.ref (ad 10 i), .ref (ad 0 0)]) M hW hS (c_X3_spare l D Z N0 g2_z ad i (hf.lv hl10)) (cwV 0 hts gX4_startStage_X3_spare rfl rfl rfl (by decide +kernel) ⟨Nat.le_of_ble_eq_true rfl, Nat.le_of_ble_eq_true rfl⟩) (r_recv M.2 hW 10 i (hf.lv hl10) rfl rfl) rfl hl.1 rfl (Nat.le_of_ble_eq_true rfl) dX4_startStage_16 ⟨Nat.le_of_ble_eq_true rfl, Nat.le_of_ble_eq_true rfl⟩) hS (fun r6_z g5_z H locs hp hW hS => ?_)
    obtain ⟨hf1, hp⟩ := hp
    have hf : Fr g g5_z := hf.trans hf1
    obtain ⟨rfl, hg⟩ := hp
    subst hg
    have b7_z : (if g2_z 10 i 2 = 0 then 1 else 0) ≤ 1 := by split <;> decide
    refine lv_aload_n hx hb dX4_startStage_19 rfl (lv_at hl 2 rfl) ?_
    refine k_ci (k_rV (As := [.ref (ad 10 i), .int (nI ((if g2_z 10 i 2 = 0 then 1 else 0))), .ref (ad 5 p)]) (rest := []) M hW hS (c_X4_startSlot l D Z N0 g2_z ad i (if g2_z 10 i 2 = 0 then 1 else 0) p (hf.lv hl10) b7_z hp2) (cwV 3 hts gX4_startStage_X4_startSlot rfl rfl rfl (by decide +kernel) ⟨Nat.le_of_ble_eq_true rfl, Nat.le_of_ble_eq_true rfl⟩) (r_recv M.2 hW 0 0 (lv0 _) rfl rfl) rfl hl.1 rfl (Nat.le_of_ble_eq_true rfl) dX4_startStage_20 ⟨Nat.le_of_ble_eq_true rfl, Nat.le_of_ble_eq_true rfl⟩) hS (fun r9_z g8_z H locs hp hW hS => ?_)
    obtain ⟨hf1, hp⟩ := hp
    have hf : Fr g g8_z := hf.trans hf1
    obtain ⟨rfl, eg8_z⟩ := hp
    refine n_if_eq (tgt := 30) hx hb (Nat.lt_of_le_of_lt (sSlot_le _ _ _ _) (by decide)) dX4_startStage_23 (by decide) (fun c10_z => ?_) (fun c10_z => ?_)
    · refine lv_iconst (v := nI 0) hx hb dX4_startStage_30 (by decide) ?_
      -- path 2
      exact W.zret (v := nI (0)) (ty := .boolean) hx hb hr (nar_b (show 0 ≤ 1 by decide)) (fun t ht hW9 => ⟨⟨nI (0), g8_z, rfl, ⟨hf, (by subst eg8_z eg2_z; exact ⟨congrArg nI (by unfold sStage; rw [if_pos c4_z, c10_z]), by unfold sStage; rw [if_pos c4_z]⟩)⟩, (show Wd D Z N0 g8_z ad t.heap by rw [ht]; exact hW)⟩, hS.F ht⟩) hS.2.2 dX4_startStage_31
    · refine lv_iconst (v := nI 1) hx hb dX4_startStage_26 (by decide) ?_
      refine lv_goto (tgt := 31) hx hb dX4_startStage_27 (by decide) ?_
      -- path 3
      exact W.zret (v := nI (1)) (ty := .boolean) hx hb hr (nar_b (show 1 ≤ 1 by decide)) (fun t ht hW9 => ⟨⟨nI (1), g8_z, rfl, ⟨hf, (by subst eg8_z eg2_z; exact ⟨congrArg nI (by unfold sStage; rw [if_pos c4_z]; have h9 := sSlot_le (sSlot g i (g 10 i 2) p).2 i (if (sSlot g i (g 10 i 2) p).2 10 i 2 = 0 then 1 else 0) p; omega), by unfold sStage; rw [if_pos c4_z]⟩)⟩, (show Wd D Z N0 g8_z ad t.heap by rw [ht]; exact hW)⟩, hS.F ht⟩) hS.2.2 dX4_startStage_31

set_option maxHeartbeats 4000000 in
set_option maxRecDepth 100000 in
/-- a start, tried into pass p -/
theorem c_X4_startInto (l : Launch) (D : va_G) (Z : Nat → Nat) (N0 : Nat) (g : T3) (ad : T2) (p : Nat) (hp2 : p < 2) : Met l yX4_startInto wsX4_startInto ({ frames := 5, cells := 0, slots := 0, locals := 260 } : Room) (PC D Z N0 g ad [.ref (ad 0 0), .ref (ad 5 p)]) (QV D Z N0 ad (fun (g1 : T3) => Fr g g1 ∧ (g1 = sInto g p))) 0 0 (AA N0) := by
  refine Met.ofW (cc := cX4_startInto) (maxL := 4) (ret := none) (by decide) rfl ?_
  intro pP eP sP mP args below meth cP s₁ B hmlP hvP
  obtain ⟨rfl, hW, hC⟩ := hvP
  have hx := B.exec
  have hb := B.bytes
  have hr := B.returns
  have hts := atoms_spec (ws := wsX4_startInto) B.pre
  have hown : sP.vm.findClass RX4 = some mP.cls := findClass_of_methodNamed B.named
  have hlocks := B.notSynchronized
  have i_X4 : ∀ w ∈ wsX40, w ∈ wsX4_startInto := (fun _ h => List.mem_cons_of_mem _ (List.mem_append_left _ (List.mem_append_left _ (List.mem_append_left _ (List.mem_append_left _ (List.mem_append_left _ (List.mem_append_right _ h)))))))
  have k_16 : Cond.fieldLink RX4 16 "StartChain" "stages" "Ljava/util/ArrayList;" ∈ wsX4_startInto := by decide +kernel
  have w_Cond_classLink_RX4_70__StartChain_Stage_ : Cond.classLink RX4 70 "StartChain$Stage" ∈ wsX4_startInto := by decide +kernel
  have M : Mx pP mP cP cX4_startInto 4 sP ([.ref (ad 0 0), .ref (ad 5 p)] : List Value).toArray wsX4_startInto RX4 D Z N0 := ⟨⟨hx, hb, hmlP, hown, hts⟩, hC⟩
  have hf : Fr g g := Fr.rf g
  have hS : va_S (AA N0) sP.heap sP.heap [] := va_S.rf
  have hl := lv_entry ([.ref (ad 0 0), .ref (ad 5 p)]) (n := 4) (Nat.le_of_ble_eq_true rfl)
  rw [lg_entry_eq]
  generalize (lg_sl ([.ref (ad 0 0), .ref (ad 5 p)]) ++ List.replicate (4 - (lg_sl ([.ref (ad 0 0), .ref (ad 5 p)])).length) Slot.unset).toArray = ls at hl ⊢
  have hl : lv_has ls 4 [(0, .ref (ad 0 0)), (1, .ref (ad 5 p))] := hl
  have hsz := (hW.2.2.2 0 (by decide)).1
  refine lv_aload_n hx hb dX4_startInto_0 rfl (lv_at hl 1 rfl) ?_
  refine k_cv (k_rV (As := []) (rest := []) M hW hS (c_X1_clear l D Z N0 g ad p hp2) (cwV 0 hts gX4_startInto_X1_clear rfl rfl rfl (by decide +kernel) ⟨Nat.le_of_ble_eq_true rfl, Nat.le_of_ble_eq_true rfl⟩) (r_recv M.2 hW 5 p hp2 rfl rfl) rfl hl.1 rfl (Nat.le_of_ble_eq_true rfl) dX4_startInto_1 ⟨Nat.le_of_ble_eq_true rfl, Nat.le_of_ble_eq_true rfl⟩) hS (fun g1_z H locs hp hW hS => ?_)
  obtain ⟨hf1, hp⟩ := hp
  have hf : Fr g g1_z := hf.trans hf1
  have eg1_z : g1_z = clr g p := hp
  refine lv_iconst (v := nI 1) hx hb dX4_startInto_4 (by decide) ?_
  refine lv_istore_n (lv' := [(2, .int (nI (1))), (0, .ref (ad 0 0)), (1, .ref (ad 5 p))]) hx hb dX4_startInto_5 rfl hl (by decide) rfl (fun ls hl => ?_)
  refine lv_iconst (v := nI 0) hx hb dX4_startInto_6 (by decide) ?_
  refine lv_istore_n (lv' := [(3, .int (nI (0))), (2, .int (nI (1))), (0, .ref (ad 0 0)), (1, .ref (ad 5 p))]) hx hb dX4_startInto_7 rfl hl (by decide) rfl (fun ls hl => ?_)
  refine k_loop (D := D) (Z := Z) (N0 := N0) (ad := ad) (g0 := g1_z) (σ := Nat) (a0 := 1) (g 3 0 2) 4 (0) (fun k gk a => Fr g gk ∧ (a = (sLoop (clr g p) p k).1 ∧ gk = (sLoop (clr g p) p k).2)) (fun k a => [(3, .int (nI (k))), (2, .int (nI (a))), (0, .ref (ad 0 0)), (1, .ref (ad 5 p))]) (Nat.zero_le _) ⟨hf, ⟨rfl, eg1_z⟩⟩ hW hS (lv_sub hl [0, 1, 2, 3] rfl) (fun n k gk a H locs ls hkn hI hW hS hl ih => ?_)
  obtain ⟨hf, hI⟩ := hI
  have hn9 : gk 3 0 2 = g 3 0 2 := hf.1 0 2 (by decide)
  have hkn9 : k ≤ g 3 0 2 := by omega
  obtain ⟨hIa, hIg⟩ := hI
  have ha1 : a ≤ 1 := by rw [hIa]; cases k with | zero => exact Nat.le_refl _ | succ k => (show (if (sLoop (clr g p) p k).1 = 0 then sLoop (clr g p) p k else sStage (sLoop (clr g p) p k).2 k p).1 ≤ 1; split <;> first | omega | exact sStage_le _ _ _)
  refine lv_iload_n hx hb dX4_startInto_8 rfl (lv_at hl 0 rfl) ?_
  refine lv_aload_n hx hb dX4_startInto_9 rfl (lv_at hl 2 rfl) ?_
  refine r_get M hW 0 0 (lv0 _) (v := .ref (ad 3 0)) rfl rfl i_X4 1 (by decide) k_16 (fun _ h9 => h9) rfl dX4_startInto_10 ?_
  refine k_ci (k_rV (As := []) (rest := [.int (nI (k))]) M hW hS (c_Jx4a65c_size_8abf5 l D Z N0 gk ad 0 (by decide)) (cwV 0 hts gX4_startInto_Jx4a65c_size_8abf5 rfl rfl rfl (by decide +kernel) ⟨Nat.le_of_ble_eq_true rfl, Nat.le_of_ble_eq_true rfl⟩) (r_recv M.2 hW 3 0 (show (0 : Nat) < 2 by decide) rfl rfl) rfl hl.1 rfl (Nat.le_of_ble_eq_true rfl) dX4_startInto_13 ⟨Nat.le_of_ble_eq_true rfl, Nat.le_of_ble_eq_true rfl⟩) hS (fun r4_z g3_z H locs hp hW hS => ?_)
  obtain ⟨hf1, hp⟩ := hp
  have hf : Fr g g3_z := hf.trans hf1
  obtain ⟨rfl, hg⟩ := hp
  subst hg
  have b5_z : gk 3 0 2 ≤ 8 := hW.2.2.1.le 3 0 2 7 rfl
  refine n_icmp_ge (tgt := 46) hx hb (by omega) (Nat.lt_of_le_of_lt b5_z (by decide)) dX4_startInto_16 (by decide) (fun c6_z => ?_) (fun c6_z => ?_)
  · -- path 1
    exact W.vret hx hb hr (fun t ht hW9 => ⟨⟨gk, rfl, ⟨hf, (by rw [hIg]; unfold sInto; rw [show g 3 0 2 = k by omega])⟩, (show Wd D Z N0 gk ad t.heap by rw [ht]; exact hW)⟩, hS.F ht⟩) hS.2.2 dX4_startInto_46
  · refine lv_iload_n hx hb dX4_startInto_19 rfl (lv_at hl 1 rfl) ?_
    refine n_if_eq (tgt := 46) hx hb (Nat.lt_of_le_of_lt ha1 (by decide)) dX4_startInto_20 (by decide) (fun c7_z => ?_) (fun c7_z => ?_)
    · -- path 2
      exact W.vret hx hb hr (fun t ht hW9 => ⟨⟨gk, rfl, ⟨hf, (by rw [hIg]; unfold sInto; rw [show g 3 0 2 = k + (g 3 0 2 - k) by omega, sLoop_0 (by rw [← hIa]; exact c7_z)])⟩, (show Wd D Z N0 gk ad t.heap by rw [ht]; exact hW)⟩, hS.F ht⟩) hS.2.2 dX4_startInto_46
    · refine lv_aload_n hx hb dX4_startInto_23 rfl (lv_at hl 2 rfl) ?_
      refine lv_aload_n hx hb dX4_startInto_24 rfl (lv_at hl 2 rfl) ?_
      refine r_get M hW 0 0 (lv0 _) (v := .ref (ad 3 0)) rfl rfl i_X4 1 (by decide) k_16 (fun _ h9 => h9) rfl dX4_startInto_25 ?_
      refine lv_iload_n hx hb dX4_startInto_28 rfl (lv_at hl 0 rfl) ?_
      refine k_cr (k_rV (As := [.int (nI (k))]) (rest := [.ref (ad 0 0)]) M hW hS (c_Jx4a65c_get_915e3 l D Z N0 gk ad 0 k (by decide) (by omega)) (cwV 1 hts gX4_startInto_Jx4a65c_get_915e3 rfl rfl rfl (by decide +kernel) ⟨Nat.le_of_ble_eq_true rfl, Nat.le_of_ble_eq_true rfl⟩) (r_recv M.2 hW 3 0 (show (0 : Nat) < 2 by decide) rfl rfl) rfl hl.1 rfl (Nat.le_of_ble_eq_true rfl) dX4_startInto_29 ⟨Nat.le_of_ble_eq_true rfl, Nat.le_of_ble_eq_true rfl⟩) hS (fun r9_z g8_z H locs hp hW hS => ?_)
      obtain ⟨hf1, hp⟩ := hp
      have hf : Fr g g8_z := hf.trans hf1
      obtain ⟨hp, hg⟩ := hp
      subst hg
      have hp : r9_z = ad 10 k := hp
      subst hp
      refine va_castS hx hb hown (hts _ w_Cond_classLink_RX4_70__StartChain_Stage_) (hC.1.1 6 _ rfl).2 (r_recv hC hW 10 k (hf.lv (Nat.lt_of_lt_of_le (show k < g 3 0 2 by omega) hsz)) rfl rfl) dX4_startInto_32 ?_
      refine lv_aload_n hx hb dX4_startInto_35 rfl (lv_at hl 3 rfl) ?_
      refine k_ci (k_rV (As := [.ref (ad 10 k), .ref (ad 5 p)]) (rest := []) M hW hS (c_X4_startStage l D Z N0 gk ad k p (hf.lv (Nat.lt_of_lt_of_le (show k < g 3 0 2 by omega) hsz)) hp2) (cwV 2 hts gX4_startInto_X4_startStage rfl rfl rfl (by decide +kernel) ⟨Nat.le_of_ble_eq_true rfl, Nat.le_of_ble_eq_true rfl⟩) (r_recv M.2 hW 0 0 (lv0 _) rfl rfl) rfl hl.1 rfl (Nat.le_of_ble_eq_true rfl) dX4_startInto_36 ⟨Nat.le_of_ble_eq_true rfl, Nat.le_of_ble_eq_true rfl⟩) hS (fun r11_z g10_z H locs hp hW hS => ?_)
      obtain ⟨hf1, hp⟩ := hp
      have hf : Fr g g10_z := hf.trans hf1
      obtain ⟨rfl, eg10_z⟩ := hp
      refine lv_istore_n (lv' := [(2, .int (nI ((sStage gk k p).1))), (3, .int (nI (k))), (0, .ref (ad 0 0)), (1, .ref (ad 5 p))]) hx hb dX4_startInto_39 rfl hl (by decide) rfl (fun ls hl => ?_)
      refine lv_iinc (v := nI (k + 1)) (lv' := [(3, .int (nI (k + 1))), (2, .int (nI ((sStage gk k p).1))), (0, .ref (ad 0 0)), (1, .ref (ad 5 p))]) hx hb dX4_startInto_40 hl (k := 1) rfl (nI_add _ _) (by decide) rfl (fun ls hl => ?_)
      refine lv_goto (tgt := 8) hx hb dX4_startInto_43 (by decide) ?_
      exact ih (by omega) g10_z ((sStage gk k p).1) _ _ _ ⟨hf, (by rw [eg10_z, hIg, sLoop_s (by rw [← hIa]; exact c7_z)]; exact ⟨rfl, rfl⟩)⟩ hW hS (lv_sub hl [0, 1, 2, 3] rfl)
