/-! The wrappers of the methods that make objects. -/
set_option maxHeartbeats 4000000 in
set_option maxRecDepth 100000 in
theorem c_L_addStage (l : Launch) (hfl : l.stackTraces = false) (D : va_G) (Z : Nat → Nat) (N0 : Nat) (g : T3) (ad : T2) (x : Int32) (hIv : Iv g) : Met l yL_addStage wsL_addStage ({ frames := 8, cells := 3, slots := 16, locals := 380 } : Room) (PC D Z N0 g ad [.ref (ad 0 0), .int (x), .ref (ad 40 0)]) (QA D Z N0 (fun (r : Int32) (g1 : T3) (ad1 : T2) => (r = nI 0 ∧ ∃ r9 g2, (∃ i, i < 3 ∧ x = nI i ∧ g 3 0 2 < 6 ∧ g 0 0 6 = 111 ∧ r9 = nI (g 3 0 2) ∧ g2 = asG g i ∧ AdS ad ad1) ∧ ∃ n9, r9.toInt64 = lN n9 ∧ g1 = up g2 40 0 0 n9) ∨ (r = nI 1 ∧ g1 = g ∧ ad1 = ad ∧ (¬ Ix 3 x)) ∨ (r = nI 2 ∧ g1 = g ∧ ad1 = ad ∧ (Ix 3 x ∧ (¬ g 3 0 2 < 6 ∨ ¬ g 0 0 6 = 111))))) 3 16 (AA N0) := by
  refine va_MetW (cc := cL_addStage) (maxL := 4) (ret := (some .int)) (by decide) rfl ?_
  intro pP eP sP mP args below meth cP s₁ B hmlP hvP
  obtain ⟨rfl, hW, hC⟩ := hvP
  have hx := B.exec
  have hb := B.bytes
  have hr := B.returns
  have hts := atoms_spec (ws := wsL_addStage) B.pre
  have hown : sP.vm.findClass RL = some mP.cls := findClass_of_methodNamed B.named
  have hlocks := B.notSynchronized
  have w_Cond_classLink_RL_13__java_lang_IllegalArgumentException_ : Cond.classLink RL 13 "java/lang/IllegalArgumentException" ∈ wsL_addStage := by decide +kernel
  have w_Cond_classLink_RL_19__java_lang_IllegalStateException_ : Cond.classLink RL 19 "java/lang/IllegalStateException" ∈ wsL_addStage := by decide +kernel
  have M : Mx pP mP cP cL_addStage 4 sP ([.ref (ad 0 0), .int (x), .ref (ad 40 0)] : List Value).toArray wsL_addStage RL D Z N0 := ⟨⟨hx, hb, hmlP, hown, hts⟩, hC⟩
  have hf : Fr g g := Fr.rf g
  have hS : va_S (AA N0) sP.heap sP.heap [] := va_S.rf
  have hl := lv_entry ([.ref (ad 0 0), .int (x), .ref (ad 40 0)]) (n := 4) (Nat.le_of_ble_eq_true rfl)
  rw [lg_entry_eq]
  generalize (lg_sl ([.ref (ad 0 0), .int (x), .ref (ad 40 0)]) ++ List.replicate (4 - (lg_sl ([.ref (ad 0 0), .int (x), .ref (ad 40 0)])).length) Slot.unset).toArray = ls at hl ⊢
  have hl : lv_has ls 4 [(0, .ref (ad 0 0)), (1, .int (x)), (2, .ref (ad 40 0))] := hl
  have htab : cP.exceptionTable.toList = [(⟨0, 9, 12, 13⟩ : ExceptionTableEntry), (⟨0, 9, 15, 19⟩ : ExceptionTableEntry)] := vx_table (x := yL_addStage) B (hts _ (show _ ∈ wsL_addStage from List.mem_cons_self))
  refine lv_aload_n hx hb dL_addStage_0 rfl (lv_at hl 2 rfl) ?_
  refine lv_iconst (v := nI 0) hx hb dL_addStage_1 (by decide) ?_
  refine lv_aload_n hx hb dL_addStage_2 rfl (lv_at hl 0 rfl) ?_
  refine lv_iload_n hx hb dL_addStage_3 rfl (lv_at hl 1 rfl) ?_
  refine k_xAi (k_xV (As := [.int (x)]) (rest := [.int (nI (0)), .ref (ad 40 0)]) M hW hS (c_X4_addStage l hfl D Z N0 g ad x hIv) (cwV 1 hts gL_addStage_X4_addStage rfl rfl rfl (by decide +kernel) ⟨(Nat.le_of_ble_eq_true rfl), (Nat.le_of_ble_eq_true rfl)⟩) (r_recv M.2 hW 0 0 (lv0 _) rfl rfl) rfl hl.1 rfl (Nat.le_of_ble_eq_true rfl) dL_addStage_4 ⟨(Nat.le_of_ble_eq_true rfl), (Nat.le_of_ble_eq_true rfl)⟩) hS (fun E ce q9 H locs hp hW hS hq9 => ?_) (fun r2_z g1_z ad3_z H locs hp hW hS => ?_)
  · rcases hp with ⟨rfl, hx9⟩ | ⟨rfl, hx9⟩
    · refine vx_catch (own := RL) (name := "java/lang/IllegalArgumentException") hown [] (⟨0, 9, 12, 13⟩ : ExceptionTableEntry) [(⟨0, 9, 15, 19⟩ : ExceptionTableEntry)] htab (fun z h => absurd h (List.not_mem_nil)) (by decide) (by decide) (hts _ w_Cond_classLink_RL_13__java_lang_IllegalArgumentException_) (va_Nw.use rfl (hC.2.2.2.2.1 ("java/lang/IllegalArgumentException", "java/lang/IllegalArgumentException") (by decide))) hq9.1 hq9.2.1 hq9.2.2 ?_
      refine lv_astore_n (lv' := [(3, .ref q9), (0, .ref (ad 0 0)), (1, .int (x)), (2, .ref (ad 40 0))]) hx hb dL_addStage_12 rfl hl (by decide) rfl (fun ls hl => ?_)
      refine lv_iconst (v := nI 1) hx hb dL_addStage_13 (by decide) ?_
      refine W.widen (k := 3) (n := 16) (Nat.le_of_ble_eq_true rfl) (Nat.le_of_ble_eq_true rfl) ?_
      -- path 1
      exact W.iret (v := nI (1)) hx hb hr (fun t ht hW9 => ⟨⟨nI (1), (g, ad), rfl, Or.inr (Or.inl (⟨rfl, rfl, rfl, hx9⟩)), (show Wd D Z N0 g ad t.heap by rw [ht]; exact hW)⟩, hS.F ht⟩) hS.2.2 dL_addStage_14
    · refine vx_catch (own := RL) (name := "java/lang/IllegalStateException") hown [(⟨0, 9, 12, 13⟩ : ExceptionTableEntry)] (⟨0, 9, 15, 19⟩ : ExceptionTableEntry) [] htab (fun z h => (List.mem_cons.mp h).elim (fun h9 => h9 ▸ Or.inr ⟨by decide, "java/lang/IllegalArgumentException", hts _ w_Cond_classLink_RL_13__java_lang_IllegalArgumentException_, hC.2.2.2.2.2.2.1 ("java/lang/IllegalStateException", "java/lang/IllegalArgumentException") (by decide)⟩) (fun h => absurd h (List.not_mem_nil))) (by decide) (by decide) (hts _ w_Cond_classLink_RL_19__java_lang_IllegalStateException_) (va_Nw.use rfl (hC.2.2.2.2.1 ("java/lang/IllegalStateException", "java/lang/IllegalStateException") (by decide))) hq9.1 hq9.2.1 hq9.2.2 ?_
      refine lv_astore_n (lv' := [(3, .ref q9), (0, .ref (ad 0 0)), (1, .int (x)), (2, .ref (ad 40 0))]) hx hb dL_addStage_15 rfl hl (by decide) rfl (fun ls hl => ?_)
      refine lv_iconst (v := nI 2) hx hb dL_addStage_16 (by decide) ?_
      refine W.widen (k := 3) (n := 16) (Nat.le_of_ble_eq_true rfl) (Nat.le_of_ble_eq_true rfl) ?_
      -- path 2
      exact W.iret (v := nI (2)) hx hb hr (fun t ht hW9 => ⟨⟨nI (2), (g, ad), rfl, Or.inr (Or.inr (⟨rfl, rfl, rfl, hx9⟩)), (show Wd D Z N0 g ad t.heap by rw [ht]; exact hW)⟩, hS.F ht⟩) hS.2.2 dL_addStage_17
  · have hf : Fr g1_z g1_z := Fr.rf _
    have hp9 := hp
    obtain ⟨_, _, _, _, _, _, _, hAS⟩ := id hp
    have e0 : ad 0 0 = ad3_z 0 0 := (hAS 0 0 (by decide)).symm
    have e40 : ad 40 0 = ad3_z 40 0 := (hAS 40 0 (by decide)).symm
    rw [e0, e40] at hl
    refine W.eq (g2 := F0 mP 7 ls [.int r2_z, .int (nI 0), .ref (ad3_z 40 0)]) (by rw [← e40]) ?_
    obtain ⟨n9, hn9⟩ := lN_all (r2_z).toInt64
    refine lv_i2l hx hb dL_addStage_7 hn9 ?_
    refine r_lst M hW hS dL_addStage_8 (fun H locs hW hS => ?_)
    obtain ⟨g4_z, eg4_z⟩ : ∃ z, z = up g1_z 40 0 0 n9 := ⟨_, rfl⟩
    rw [← eg4_z] at hW
    have hf : Fr g1_z g4_z := by rw [eg4_z]; exact hf.up rfl
    refine lv_goto (tgt := 18) hx hb dL_addStage_9 (by decide) ?_
    refine lv_iconst (v := nI 0) hx hb dL_addStage_18 (by decide) ?_
    refine W.widen (k := 3) (n := 16) (Nat.le_of_ble_eq_true rfl) (Nat.le_of_ble_eq_true rfl) ?_
    -- path 3
    exact W.iret (v := nI (0)) hx hb hr (fun t ht hW9 => ⟨⟨nI (0), (g4_z, ad3_z), rfl, Or.inl (⟨rfl, r2_z, g1_z, hp9, n9, hn9, eg4_z⟩), (show Wd D Z N0 g4_z ad3_z t.heap by rw [ht]; exact hW)⟩, hS.F ht⟩) hS.2.2 dL_addStage_19

set_option maxHeartbeats 4000000 in
set_option maxRecDepth 100000 in
theorem c_L_install (l : Launch) (hfl : l.stackTraces = false) (D : va_G) (Z : Nat → Nat) (N0 : Nat) (g : T3) (ad : T2) (x y z u : Int32) (hIv : Iv g) : Met l yL_install wsL_install ({ frames := 9, cells := 2, slots := 12, locals := 420 } : Room) (PC D Z N0 g ad [.ref (ad 0 0), .int (x), .int (y), .int (z), .int (u), .ref (ad 40 0)]) (QA D Z N0 (fun (r : Int32) (g1 : T3) (ad1 : T2) => (r = nI 0 ∧ ∃ r9 g2, (∃ i k v q0, i < g 3 0 2 ∧ x = nI i ∧ 1 ≤ k ∧ k ≤ 9 ∧ y = nI k ∧ 1 ≤ v ∧ v ≤ 99 ∧ z = nI v ∧ q0 < 1000 ∧ u = nI q0 ∧ r9 = nI (pSl g i) ∧ g2 = imG (up g 10 i 2 (pSl g i)) i (pSl g i) k v q0 ∧ AdS ad ad1) ∧ ∃ n9, r9.toInt64 = lN n9 ∧ g1 = up g2 40 0 0 n9) ∨ (r = nI 1 ∧ g1 = g ∧ ad1 = ad ∧ (¬ Ix (g 3 0 2) x)) ∨ (r = nI 2 ∧ g1 = g ∧ ad1 = ad ∧ (Ix (g 3 0 2) x ∧ (¬ Bt 9 y ∨ ¬ Bt 99 z ∨ ¬ Ix 1000 u))))) 2 12 (AA N0) := by
  refine va_MetW (cc := cL_install) (maxL := 7) (ret := (some .int)) (by decide) rfl ?_
  intro pP eP sP mP args below meth cP s₁ B hmlP hvP
  obtain ⟨rfl, hW, hC⟩ := hvP
  have hx := B.exec
  have hb := B.bytes
  have hr := B.returns
  have hts := atoms_spec (ws := wsL_install) B.pre
  have hown : sP.vm.findClass RL = some mP.cls := findClass_of_methodNamed B.named
  have hlocks := B.notSynchronized
  have w_Cond_classLink_RL_25__java_lang_IndexOutOfBoundsException_ : Cond.classLink RL 25 "java/lang/IndexOutOfBoundsException" ∈ wsL_install := by decide +kernel
  have w_Cond_classLink_RL_13__java_lang_IllegalArgumentException_ : Cond.classLink RL 13 "java/lang/IllegalArgumentException" ∈ wsL_install := by decide +kernel
  have M : Mx pP mP cP cL_install 7 sP ([.ref (ad 0 0), .int (x), .int (y), .int (z), .int (u), .ref (ad 40 0)] : List Value).toArray wsL_install RL D Z N0 := ⟨⟨hx, hb, hmlP, hown, hts⟩, hC⟩
  have hf : Fr g g := Fr.rf g
  have hS : va_S (AA N0) sP.heap sP.heap [] := va_S.rf
  have hl := lv_entry ([.ref (ad 0 0), .int (x), .int (y), .int (z), .int (u), .ref (ad 40 0)]) (n := 7) (Nat.le_of_ble_eq_true rfl)
  rw [lg_entry_eq]
  generalize (lg_sl ([.ref (ad 0 0), .int (x), .int (y), .int (z), .int (u), .ref (ad 40 0)]) ++ List.replicate (7 - (lg_sl ([.ref (ad 0 0), .int (x), .int (y), .int (z), .int (u), .ref (ad 40 0)])).length) Slot.unset).toArray = ls at hl ⊢
  have hl : lv_has ls 7 [(0, .ref (ad 0 0)), (1, .int (x)), (2, .int (y)), (3, .int (z)), (4, .int (u)), (5, .ref (ad 40 0))] := hl
  have htab : cP.exceptionTable.toList = [(⟨0, 14, 17, 25⟩ : ExceptionTableEntry), (⟨0, 14, 21, 13⟩ : ExceptionTableEntry)] := vx_table (x := yL_install) B (hts _ (show _ ∈ wsL_install from List.mem_cons_self))
  refine lv_aload hx hb dL_install_0 (lv_at hl 5 rfl) ?_
  refine lv_iconst (v := nI 0) hx hb dL_install_2 (by decide) ?_
  refine lv_aload_n hx hb dL_install_3 rfl (lv_at hl 0 rfl) ?_
  refine lv_iload_n hx hb dL_install_4 rfl (lv_at hl 1 rfl) ?_
  refine lv_iload_n hx hb dL_install_5 rfl (lv_at hl 2 rfl) ?_
  refine lv_iload_n hx hb dL_install_6 rfl (lv_at hl 3 rfl) ?_
  refine lv_iload hx hb dL_install_7 (lv_at hl 4 rfl) ?_
  refine k_xAi (k_xV (As := [.int (x), .int (y), .int (z), .int (u)]) (rest := [.int (nI (0)), .ref (ad 40 0)]) M hW hS (c_X4_install l hfl D Z N0 g ad x y z u hIv) (cwV 4 hts gL_install_X4_install rfl rfl rfl (by decide +kernel) ⟨(Nat.le_of_ble_eq_true rfl), (Nat.le_of_ble_eq_true rfl)⟩) (r_recv M.2 hW 0 0 (lv0 _) rfl rfl) rfl hl.1 rfl (Nat.le_of_ble_eq_true rfl) dL_install_9 ⟨(Nat.le_of_ble_eq_true rfl), (Nat.le_of_ble_eq_true rfl)⟩) hS (fun E ce q9 H locs hp hW hS hq9 => ?_) (fun r2_z g1_z ad3_z H locs hp hW hS => ?_)
  · rcases hp with ⟨rfl, hx9⟩ | ⟨rfl, hx9⟩
    · refine vx_catch (own := RL) (name := "java/lang/IndexOutOfBoundsException") hown [] (⟨0, 14, 17, 25⟩ : ExceptionTableEntry) [(⟨0, 14, 21, 13⟩ : ExceptionTableEntry)] htab (fun z h => absurd h (List.not_mem_nil)) (by decide) (by decide) (hts _ w_Cond_classLink_RL_25__java_lang_IndexOutOfBoundsException_) (va_Nw.use rfl (hC.2.2.2.2.1 ("java/lang/IndexOutOfBoundsException", "java/lang/IndexOutOfBoundsException") (by decide))) hq9.1 hq9.2.1 hq9.2.2 ?_
      refine lv_astore (lv' := [(6, .ref q9), (0, .ref (ad 0 0)), (1, .int (x)), (2, .int (y)), (3, .int (z)), (4, .int (u)), (5, .ref (ad 40 0))]) hx hb dL_install_17 hl (by decide) rfl (fun ls hl => ?_)
      refine lv_iconst (v := nI 1) hx hb dL_install_19 (by decide) ?_
      refine W.widen (k := 2) (n := 12) (Nat.le_of_ble_eq_true rfl) (Nat.le_of_ble_eq_true rfl) ?_
      -- path 1
      exact W.iret (v := nI (1)) hx hb hr (fun t ht hW9 => ⟨⟨nI (1), (g, ad), rfl, Or.inr (Or.inl (⟨rfl, rfl, rfl, hx9⟩)), (show Wd D Z N0 g ad t.heap by rw [ht]; exact hW)⟩, hS.F ht⟩) hS.2.2 dL_install_20
    · refine vx_catch (own := RL) (name := "java/lang/IllegalArgumentException") hown [(⟨0, 14, 17, 25⟩ : ExceptionTableEntry)] (⟨0, 14, 21, 13⟩ : ExceptionTableEntry) [] htab (fun z h => (List.mem_cons.mp h).elim (fun h9 => h9 ▸ Or.inr ⟨by decide, "java/lang/IndexOutOfBoundsException", hts _ w_Cond_classLink_RL_25__java_lang_IndexOutOfBoundsException_, hC.2.2.2.2.2.2.1 ("java/lang/IllegalArgumentException", "java/lang/IndexOutOfBoundsException") (by decide)⟩) (fun h => absurd h (List.not_mem_nil))) (by decide) (by decide) (hts _ w_Cond_classLink_RL_13__java_lang_IllegalArgumentException_) (va_Nw.use rfl (hC.2.2.2.2.1 ("java/lang/IllegalArgumentException", "java/lang/IllegalArgumentException") (by decide))) hq9.1 hq9.2.1 hq9.2.2 ?_
      refine lv_astore (lv' := [(6, .ref q9), (0, .ref (ad 0 0)), (1, .int (x)), (2, .int (y)), (3, .int (z)), (4, .int (u)), (5, .ref (ad 40 0))]) hx hb dL_install_21 hl (by decide) rfl (fun ls hl => ?_)
      refine lv_iconst (v := nI 2) hx hb dL_install_23 (by decide) ?_
      refine W.widen (k := 2) (n := 12) (Nat.le_of_ble_eq_true rfl) (Nat.le_of_ble_eq_true rfl) ?_
      -- path 2
      exact W.iret (v := nI (2)) hx hb hr (fun t ht hW9 => ⟨⟨nI (2), (g, ad), rfl, Or.inr (Or.inr (⟨rfl, rfl, rfl, hx9⟩)), (show Wd D Z N0 g ad t.heap by rw [ht]; exact hW)⟩, hS.F ht⟩) hS.2.2 dL_install_24
  · have hf : Fr g1_z g1_z := Fr.rf _
    have hp9 := hp
    obtain ⟨_, _, _, _, _, _, _, _, _, _, _, _, _, _, _, _, hAS⟩ := id hp
    have e0 : ad 0 0 = ad3_z 0 0 := (hAS 0 0 (by decide)).symm
    have e40 : ad 40 0 = ad3_z 40 0 := (hAS 40 0 (by decide)).symm
    rw [e0, e40] at hl
    refine W.eq (g2 := F0 mP 12 ls [.int r2_z, .int (nI 0), .ref (ad3_z 40 0)]) (by rw [← e40]) ?_
    obtain ⟨n9, hn9⟩ := lN_all (r2_z).toInt64
    refine lv_i2l hx hb dL_install_12 hn9 ?_
    refine r_lst M hW hS dL_install_13 (fun H locs hW hS => ?_)
    obtain ⟨g4_z, eg4_z⟩ : ∃ z, z = up g1_z 40 0 0 n9 := ⟨_, rfl⟩
    rw [← eg4_z] at hW
    have hf : Fr g1_z g4_z := by rw [eg4_z]; exact hf.up rfl
    refine lv_goto (tgt := 25) hx hb dL_install_14 (by decide) ?_
    refine lv_iconst (v := nI 0) hx hb dL_install_25 (by decide) ?_
    refine W.widen (k := 2) (n := 12) (Nat.le_of_ble_eq_true rfl) (Nat.le_of_ble_eq_true rfl) ?_
    -- path 3
    exact W.iret (v := nI (0)) hx hb hr (fun t ht hW9 => ⟨⟨nI (0), (g4_z, ad3_z), rfl, Or.inl (⟨rfl, r2_z, g1_z, hp9, n9, hn9, eg4_z⟩), (show Wd D Z N0 g4_z ad3_z t.heap by rw [ht]; exact hW)⟩, hS.F ht⟩) hS.2.2 dL_install_26

set_option maxHeartbeats 4000000 in
set_option maxRecDepth 100000 in
theorem c_L_seal (l : Launch) (hfl : l.stackTraces = false) (D : va_G) (Z : Nat → Nat) (N0 : Nat) (g : T3) (ad : T2) (x y : Int32) (hIv : Iv g) : Met l yL_seal wsL_seal ({ frames := 8, cells := 3, slots := 16, locals := 380 } : Room) (PC D Z N0 g ad [.ref (ad 0 0), .int (x), .int (y), .ref (ad 40 0)]) (QA D Z N0 (fun (r : Int32) (g1 : T3) (ad1 : T2) => (r = nI 0 ∧ ∃ r9 g2, (∃ a b, 1 ≤ a ∧ a ≤ 7 ∧ x = nI a ∧ 1 ≤ b ∧ b ≤ 5 ∧ y = nI b ∧ g 0 0 6 = 114 ∧ g 3 1 2 < 8 ∧ r9 = nI (g 3 1 2) ∧ g2 = slG g a b ∧ AdS ad ad1) ∧ ∃ n9, r9.toInt64 = lN n9 ∧ g1 = up g2 40 0 0 n9) ∨ (r = nI 1 ∧ g1 = g ∧ ad1 = ad ∧ ((¬ Bt 7 x ∨ ¬ Bt 5 y))) ∨ (r = nI 2 ∧ g1 = g ∧ ad1 = ad ∧ (Bt 7 x ∧ Bt 5 y ∧ (¬ g 0 0 6 = 114 ∨ ¬ g 3 1 2 < 8))))) 3 16 (AA N0) := by
  refine va_MetW (cc := cL_seal) (maxL := 5) (ret := (some .int)) (by decide) rfl ?_
  intro pP eP sP mP args below meth cP s₁ B hmlP hvP
  obtain ⟨rfl, hW, hC⟩ := hvP
  have hx := B.exec
  have hb := B.bytes
  have hr := B.returns
  have hts := atoms_spec (ws := wsL_seal) B.pre
  have hown : sP.vm.findClass RL = some mP.cls := findClass_of_methodNamed B.named
  have hlocks := B.notSynchronized
  have w_Cond_classLink_RL_13__java_lang_IllegalArgumentException_ : Cond.classLink RL 13 "java/lang/IllegalArgumentException" ∈ wsL_seal := by decide +kernel
  have w_Cond_classLink_RL_19__java_lang_IllegalStateException_ : Cond.classLink RL 19 "java/lang/IllegalStateException" ∈ wsL_seal := by decide +kernel
  have M : Mx pP mP cP cL_seal 5 sP ([.ref (ad 0 0), .int (x), .int (y), .ref (ad 40 0)] : List Value).toArray wsL_seal RL D Z N0 := ⟨⟨hx, hb, hmlP, hown, hts⟩, hC⟩
  have hf : Fr g g := Fr.rf g
  have hS : va_S (AA N0) sP.heap sP.heap [] := va_S.rf
  have hl := lv_entry ([.ref (ad 0 0), .int (x), .int (y), .ref (ad 40 0)]) (n := 5) (Nat.le_of_ble_eq_true rfl)
  rw [lg_entry_eq]
  generalize (lg_sl ([.ref (ad 0 0), .int (x), .int (y), .ref (ad 40 0)]) ++ List.replicate (5 - (lg_sl ([.ref (ad 0 0), .int (x), .int (y), .ref (ad 40 0)])).length) Slot.unset).toArray = ls at hl ⊢
  have hl : lv_has ls 5 [(0, .ref (ad 0 0)), (1, .int (x)), (2, .int (y)), (3, .ref (ad 40 0))] := hl
  have htab : cP.exceptionTable.toList = [(⟨0, 10, 13, 13⟩ : ExceptionTableEntry), (⟨0, 10, 17, 19⟩ : ExceptionTableEntry)] := vx_table (x := yL_seal) B (hts _ (show _ ∈ wsL_seal from List.mem_cons_self))
  refine lv_aload_n hx hb dL_seal_0 rfl (lv_at hl 3 rfl) ?_
  refine lv_iconst (v := nI 0) hx hb dL_seal_1 (by decide) ?_
  refine lv_aload_n hx hb dL_seal_2 rfl (lv_at hl 0 rfl) ?_
  refine lv_iload_n hx hb dL_seal_3 rfl (lv_at hl 1 rfl) ?_
  refine lv_iload_n hx hb dL_seal_4 rfl (lv_at hl 2 rfl) ?_
  refine k_xAi (k_xV (As := [.int (x), .int (y)]) (rest := [.int (nI (0)), .ref (ad 40 0)]) M hW hS (c_X4_seal l hfl D Z N0 g ad x y hIv) (cwV 2 hts gL_seal_X4_seal rfl rfl rfl (by decide +kernel) ⟨(Nat.le_of_ble_eq_true rfl), (Nat.le_of_ble_eq_true rfl)⟩) (r_recv M.2 hW 0 0 (lv0 _) rfl rfl) rfl hl.1 rfl (Nat.le_of_ble_eq_true rfl) dL_seal_5 ⟨(Nat.le_of_ble_eq_true rfl), (Nat.le_of_ble_eq_true rfl)⟩) hS (fun E ce q9 H locs hp hW hS hq9 => ?_) (fun r2_z g1_z ad3_z H locs hp hW hS => ?_)
  · rcases hp with ⟨rfl, hx9⟩ | ⟨rfl, hx9⟩
    · refine vx_catch (own := RL) (name := "java/lang/IllegalArgumentException") hown [] (⟨0, 10, 13, 13⟩ : ExceptionTableEntry) [(⟨0, 10, 17, 19⟩ : ExceptionTableEntry)] htab (fun z h => absurd h (List.not_mem_nil)) (by decide) (by decide) (hts _ w_Cond_classLink_RL_13__java_lang_IllegalArgumentException_) (va_Nw.use rfl (hC.2.2.2.2.1 ("java/lang/IllegalArgumentException", "java/lang/IllegalArgumentException") (by decide))) hq9.1 hq9.2.1 hq9.2.2 ?_
      refine lv_astore (lv' := [(4, .ref q9), (0, .ref (ad 0 0)), (1, .int (x)), (2, .int (y)), (3, .ref (ad 40 0))]) hx hb dL_seal_13 hl (by decide) rfl (fun ls hl => ?_)
      refine lv_iconst (v := nI 1) hx hb dL_seal_15 (by decide) ?_
      refine W.widen (k := 3) (n := 16) (Nat.le_of_ble_eq_true rfl) (Nat.le_of_ble_eq_true rfl) ?_
      -- path 1
      exact W.iret (v := nI (1)) hx hb hr (fun t ht hW9 => ⟨⟨nI (1), (g, ad), rfl, Or.inr (Or.inl (⟨rfl, rfl, rfl, hx9⟩)), (show Wd D Z N0 g ad t.heap by rw [ht]; exact hW)⟩, hS.F ht⟩) hS.2.2 dL_seal_16
    · refine vx_catch (own := RL) (name := "java/lang/IllegalStateException") hown [(⟨0, 10, 13, 13⟩ : ExceptionTableEntry)] (⟨0, 10, 17, 19⟩ : ExceptionTableEntry) [] htab (fun z h => (List.mem_cons.mp h).elim (fun h9 => h9 ▸ Or.inr ⟨by decide, "java/lang/IllegalArgumentException", hts _ w_Cond_classLink_RL_13__java_lang_IllegalArgumentException_, hC.2.2.2.2.2.2.1 ("java/lang/IllegalStateException", "java/lang/IllegalArgumentException") (by decide)⟩) (fun h => absurd h (List.not_mem_nil))) (by decide) (by decide) (hts _ w_Cond_classLink_RL_19__java_lang_IllegalStateException_) (va_Nw.use rfl (hC.2.2.2.2.1 ("java/lang/IllegalStateException", "java/lang/IllegalStateException") (by decide))) hq9.1 hq9.2.1 hq9.2.2 ?_
      refine lv_astore (lv' := [(4, .ref q9), (0, .ref (ad 0 0)), (1, .int (x)), (2, .int (y)), (3, .ref (ad 40 0))]) hx hb dL_seal_17 hl (by decide) rfl (fun ls hl => ?_)
      refine lv_iconst (v := nI 2) hx hb dL_seal_19 (by decide) ?_
      refine W.widen (k := 3) (n := 16) (Nat.le_of_ble_eq_true rfl) (Nat.le_of_ble_eq_true rfl) ?_
      -- path 2
      exact W.iret (v := nI (2)) hx hb hr (fun t ht hW9 => ⟨⟨nI (2), (g, ad), rfl, Or.inr (Or.inr (⟨rfl, rfl, rfl, hx9⟩)), (show Wd D Z N0 g ad t.heap by rw [ht]; exact hW)⟩, hS.F ht⟩) hS.2.2 dL_seal_20
  · have hf : Fr g1_z g1_z := Fr.rf _
    have hp9 := hp
    obtain ⟨_, _, _, _, _, _, _, _, _, _, _, _, hAS⟩ := id hp
    have e0 : ad 0 0 = ad3_z 0 0 := (hAS 0 0 (by decide)).symm
    have e40 : ad 40 0 = ad3_z 40 0 := (hAS 40 0 (by decide)).symm
    rw [e0, e40] at hl
    refine W.eq (g2 := F0 mP 8 ls [.int r2_z, .int (nI 0), .ref (ad3_z 40 0)]) (by rw [← e40]) ?_
    obtain ⟨n9, hn9⟩ := lN_all (r2_z).toInt64
    refine lv_i2l hx hb dL_seal_8 hn9 ?_
    refine r_lst M hW hS dL_seal_9 (fun H locs hW hS => ?_)
    obtain ⟨g4_z, eg4_z⟩ : ∃ z, z = up g1_z 40 0 0 n9 := ⟨_, rfl⟩
    rw [← eg4_z] at hW
    have hf : Fr g1_z g4_z := by rw [eg4_z]; exact hf.up rfl
    refine lv_goto (tgt := 21) hx hb dL_seal_10 (by decide) ?_
    refine lv_iconst (v := nI 0) hx hb dL_seal_21 (by decide) ?_
    refine W.widen (k := 3) (n := 16) (Nat.le_of_ble_eq_true rfl) (Nat.le_of_ble_eq_true rfl) ?_
    -- path 3
    exact W.iret (v := nI (0)) hx hb hr (fun t ht hW9 => ⟨⟨nI (0), (g4_z, ad3_z), rfl, Or.inl (⟨rfl, r2_z, g1_z, hp9, n9, hn9, eg4_z⟩), (show Wd D Z N0 g4_z ad3_z t.heap by rw [ht]; exact hW)⟩, hS.F ht⟩) hS.2.2 dL_seal_22
