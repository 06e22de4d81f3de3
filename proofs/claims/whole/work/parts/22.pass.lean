set_option maxHeartbeats 4000000 in
set_option maxRecDepth 100000 in
/-- the three registers of a pass become 0 -/
theorem c_J7_fill_53178 (l : Launch) (D : va_G) (Z : Nat → Nat) (N0 : Nat) (g : T3) (ad : T2) (p : Nat) (hp2 : p < 2) : Met l yJ7_fill_53178 wsJ7_fill_53178 ({ frames := 0, cells := 0, slots := 0, locals := 60 } : Room) (PC D Z N0 g ad [.ref (ad 6 p), .int (nI (0))]) (QV D Z N0 ad (fun (g1 : T3) => Fr g g1 ∧ (g1 = fil g p 3))) 0 0 (AA N0) := by
  refine Met.ofW (cc := cJ7_fill_53178) (maxL := 4) (ret := none) (by decide) rfl ?_
  intro pP eP sP mP args below meth cP s₁ B hmlP hvP
  obtain ⟨rfl, hW, hC⟩ := hvP
  have hx := B.exec
  have hb := B.bytes
  have hr := B.returns
  have hts := atoms_spec (ws := wsJ7_fill_53178) B.pre
  have hown : sP.vm.findClass RJ7 = some mP.cls := findClass_of_methodNamed B.named
  have hlocks := B.notSynchronized
  have M : Mx pP mP cP cJ7_fill_53178 4 sP ([.ref (ad 6 p), .int (nI (0))] : List Value).toArray wsJ7_fill_53178 RJ7 D Z N0 := ⟨⟨hx, hb, hmlP, hown, hts⟩, hC⟩
  have hf : Fr g g := Fr.rf g
  have hS : va_S (AA N0) sP.heap sP.heap [] := va_S.rf
  have hl := lv_entry ([.ref (ad 6 p), .int (nI (0))]) (n := 4) (Nat.le_of_ble_eq_true rfl)
  rw [lg_entry_eq]
  generalize (lg_sl ([.ref (ad 6 p), .int (nI (0))]) ++ List.replicate (4 - (lg_sl ([.ref (ad 6 p), .int (nI (0))])).length) Slot.unset).toArray = ls at hl ⊢
  have hl : lv_has ls 4 [(0, .ref (ad 6 p)), (1, .int (nI (0)))] := hl
  refine lv_iconst (v := nI 0) hx hb dJ7_fill_53178_0 (by decide) ?_
  refine lv_istore_n (lv' := [(2, .int (nI (0))), (0, .ref (ad 6 p)), (1, .int (nI (0)))]) hx hb dJ7_fill_53178_1 rfl hl (by decide) rfl (fun ls hl => ?_)
  refine lv_aload_n hx hb dJ7_fill_53178_2 rfl (lv_at hl 1 rfl) ?_
  refine r_alen M hW 6 p hp2 (t := 0) (n := 3) rfl rfl dJ7_fill_53178_3 ?_
  refine lv_istore_n (lv' := [(3, .int (nI (3))), (2, .int (nI (0))), (0, .ref (ad 6 p)), (1, .int (nI (0)))]) hx hb dJ7_fill_53178_4 rfl hl (by decide) rfl (fun ls hl => ?_)
  refine k_loop (D := D) (Z := Z) (N0 := N0) (ad := ad) (g0 := g) (σ := Unit) (a0 := ()) (3) 4 (0) (fun k gk a => Fr g gk ∧ (gk = fil g p k)) (fun k a => [(3, .int (nI (3))), (2, .int (nI (k))), (0, .ref (ad 6 p)), (1, .int (nI (0)))]) (by decide) ⟨hf, rfl⟩ hW hS (lv_sub hl [0, 1, 2, 3] rfl) (fun n k gk a H locs ls hkn hI hW hS hl ih => ?_)
  obtain ⟨hf, hI⟩ := hI
  refine lv_iload_n hx hb dJ7_fill_53178_5 rfl (lv_at hl 1 rfl) ?_
  refine lv_iload_n hx hb dJ7_fill_53178_6 rfl (lv_at hl 0 rfl) ?_
  refine n_icmp_ge (tgt := 20) hx hb (by omega) (by decide) dJ7_fill_53178_7 (by decide) (fun c1_z => ?_) (fun c1_z => ?_)
  · -- path 1
    exact W.vret hx hb hr (fun t ht hW9 => ⟨⟨gk, rfl, ⟨hf, (by rw [hI, show k = 3 by omega])⟩, (show Wd D Z N0 gk ad t.heap by rw [ht]; exact hW)⟩, hS.F ht⟩) hS.2.2 dJ7_fill_53178_20
  · refine lv_aload_n hx hb dJ7_fill_53178_10 rfl (lv_at hl 2 rfl) ?_
    refine lv_iload_n hx hb dJ7_fill_53178_11 rfl (lv_at hl 1 rfl) ?_
    refine lv_iload_n hx hb dJ7_fill_53178_12 rfl (lv_at hl 3 rfl) ?_
    refine r_ist M hW hS 6 p hp2 (n := 3) (fun _ => rfl) (by omega) (by decide) rfl (Or.inr (show 0 ≤ 9972 by decide)) dJ7_fill_53178_13 (fun H locs hW hS => ?_)
    obtain ⟨g2_z, eg2_z⟩ : ∃ z, z = up gk 6 p k 0 := ⟨_, rfl⟩
    rw [← eg2_z] at hW
    have hf : Fr g g2_z := by rw [eg2_z]; exact hf.up rfl
    refine lv_iinc (v := nI (k + 1)) (lv' := [(2, .int (nI (k + 1))), (3, .int (nI (3))), (0, .ref (ad 6 p)), (1, .int (nI (0)))]) hx hb dJ7_fill_53178_14 hl (k := 1) rfl (nI_add _ _) (by decide) rfl (fun ls hl => ?_)
    refine lv_goto (tgt := 5) hx hb dJ7_fill_53178_17 (by decide) ?_
    exact ih (by omega) g2_z (()) _ _ _ ⟨hf, (by rw [eg2_z, hI]; try rfl)⟩ hW hS (lv_sub hl [1, 0, 2, 3] rfl)

set_option maxHeartbeats 4000000 in
set_option maxRecDepth 100000 in
/-- clear(): the registers 0, nothing logged, nothing ran -/
theorem c_X1_clear (l : Launch) (D : va_G) (Z : Nat → Nat) (N0 : Nat) (g : T3) (ad : T2) (p : Nat) (hp2 : p < 2) : Met l yX1_clear wsX1_clear ({ frames := 1, cells := 0, slots := 0, locals := 100 } : Room) (PC D Z N0 g ad [.ref (ad 5 p)]) (QV D Z N0 ad (fun (g1 : T3) => Fr g g1 ∧ (g1 = clr g p))) 0 0 (AA N0) := by
  refine Met.ofW (cc := cX1_clear) (maxL := 1) (ret := none) (by decide) rfl ?_
  intro pP eP sP mP args below meth cP s₁ B hmlP hvP
  obtain ⟨rfl, hW, hC⟩ := hvP
  have hx := B.exec
  have hb := B.bytes
  have hr := B.returns
  have hts := atoms_spec (ws := wsX1_clear) B.pre
  have hown : sP.vm.findClass RX1 = some mP.cls := findClass_of_methodNamed B.named
  have hlocks := B.notSynchronized
  have i_X1 : ∀ w ∈ wsX10, w ∈ wsX1_clear := (fun _ h => List.mem_cons_of_mem _ (List.mem_append_right _ h))
  have k_9 : Cond.fieldLink RX1 9 "StartChain$Pass" "registers" "[I" ∈ wsX1_clear := by decide +kernel
  have k_18 : Cond.fieldLink RX1 18 "StartChain$Pass" "entryCount" "I" ∈ wsX1_clear := by decide +kernel
  have k_28 : Cond.fieldLink RX1 28 "StartChain$Pass" "ranCount" "I" ∈ wsX1_clear := by decide +kernel
  have k_31 : Cond.fieldLink RX1 31 "StartChain$Pass" "fallbackCount" "I" ∈ wsX1_clear := by decide +kernel
  have M : Mx pP mP cP cX1_clear 1 sP ([.ref (ad 5 p)] : List Value).toArray wsX1_clear RX1 D Z N0 := ⟨⟨hx, hb, hmlP, hown, hts⟩, hC⟩
  have hf : Fr g g := Fr.rf g
  have hS : va_S (AA N0) sP.heap sP.heap [] := va_S.rf
  have hl := lv_entry ([.ref (ad 5 p)]) (n := 1) (Nat.le_of_ble_eq_true rfl)
  rw [lg_entry_eq]
  generalize (lg_sl ([.ref (ad 5 p)]) ++ List.replicate (1 - (lg_sl ([.ref (ad 5 p)])).length) Slot.unset).toArray = ls at hl ⊢
  have hl : lv_has ls 1 [(0, .ref (ad 5 p))] := hl
  refine lv_aload_n hx hb dX1_clear_0 rfl (lv_at hl 0 rfl) ?_
  refine r_get M hW 5 p hp2 (v := .ref (ad 6 p)) rfl rfl i_X1 0 (by decide) k_9 (fun _ h9 => h9) rfl dX1_clear_1 ?_
  refine lv_iconst (v := nI 0) hx hb dX1_clear_4 (by decide) ?_
  refine k_cv (k_rS (As := [.ref (ad 6 p), .int (nI (0))]) (rest := []) M hW hS (c_J7_fill_53178 l D Z N0 g ad p hp2) (va_cwS 2 hts gX1_clear_J7_fill_53178 rfl rfl rfl (by decide +kernel) ⟨Nat.le_of_ble_eq_true rfl, Nat.le_of_ble_eq_true rfl⟩) rfl hl.1 rfl (Nat.le_of_ble_eq_true rfl) dX1_clear_5 ⟨Nat.le_of_ble_eq_true rfl, Nat.le_of_ble_eq_true rfl⟩) hS (fun g1_z H locs hp hW hS => ?_)
  obtain ⟨hf1, hp⟩ := hp
  have hf : Fr g g1_z := hf.trans hf1
  have eg1_z : g1_z = fil g p 3 := hp
  refine lv_aload_n hx hb dX1_clear_8 rfl (lv_at hl 0 rfl) ?_
  refine lv_iconst (v := nI 0) hx hb dX1_clear_9 (by decide) ?_
  refine r_put M hW hS 5 p hp2 rfl rfl i_X1 tyX1 tyX1_ok nmX1 2 (by decide) k_18 (fun _ h9 => h9) rfl (ty := .int) (by decide +kernel) rfl rfl (Nat.le_of_ble_eq_true rfl) rfl rfl (Or.inr (show 0 ≤ 12 by decide)) dX1_clear_10 (fun H locs hW hS => ?_)
  obtain ⟨g3_z, eg3_z⟩ : ∃ z, z = up g1_z 5 p 2 0 := ⟨_, rfl⟩
  rw [← eg3_z] at hW
  have hf : Fr g g3_z := by rw [eg3_z]; exact hf.up rfl
  refine lv_aload_n hx hb dX1_clear_13 rfl (lv_at hl 0 rfl) ?_
  refine lv_iconst (v := nI 0) hx hb dX1_clear_14 (by decide) ?_
  refine r_put M hW hS 5 p hp2 rfl rfl i_X1 tyX1 tyX1_ok nmX1 5 (by decide) k_28 (fun _ h9 => h9) rfl (ty := .int) (by decide +kernel) rfl rfl (Nat.le_of_ble_eq_true rfl) rfl rfl (Or.inr (show 0 ≤ 6 by decide)) dX1_clear_15 (fun H locs hW hS => ?_)
  obtain ⟨g4_z, eg4_z⟩ : ∃ z, z = up g3_z 5 p 5 0 := ⟨_, rfl⟩
  rw [← eg4_z] at hW
  have hf : Fr g g4_z := by rw [eg4_z]; exact hf.up rfl
  refine lv_aload_n hx hb dX1_clear_18 rfl (lv_at hl 0 rfl) ?_
  refine lv_iconst (v := nI 0) hx hb dX1_clear_19 (by decide) ?_
  refine r_put M hW hS 5 p hp2 rfl rfl i_X1 tyX1 tyX1_ok nmX1 6 (by decide) k_31 (fun _ h9 => h9) rfl (ty := .int) (by decide +kernel) rfl rfl (Nat.le_of_ble_eq_true rfl) rfl rfl (Or.inl rfl) dX1_clear_20 (fun H locs hW hS => ?_)
  obtain ⟨g5_z, eg5_z⟩ : ∃ z, z = up g4_z 5 p 6 0 := ⟨_, rfl⟩
  rw [← eg5_z] at hW
  have hf : Fr g g5_z := by rw [eg5_z]; exact hf.up rfl
  -- path 1
  exact W.vret hx hb hr (fun t ht hW9 => ⟨⟨g5_z, rfl, ⟨hf, (by rw [eg5_z, eg4_z, eg3_z, eg1_z]; try rfl)⟩, (show Wd D Z N0 g5_z ad t.heap by rw [ht]; exact hW)⟩, hS.F ht⟩) hS.2.2 dX1_clear_23

set_option maxHeartbeats 4000000 in
set_option maxRecDepth 100000 in
/-- 31 times the value, plus the measure, plus 1, modulo 9973 -/
theorem c_X4_fold (l : Launch) (D : va_G) (Z : Nat → Nat) (N0 : Nat) (g : T3) (ad : T2) (v q : Nat) (hv : v ≤ 9972) (hq : q ≤ 999) : Met l yX4_fold wsX4_fold ({ frames := 0, cells := 0, slots := 0, locals := 60 } : Room) (PC D Z N0 g ad [.int (nI (v)), .int (nI (q))]) (QI D Z N0 ad (fun (r : Int32) (g1 : T3) => Fr g g1 ∧ (r = nI ((31 * v + q + 1) % 9973) ∧ g = g1))) 0 0 (AA N0) := by
  refine Met.ofW (cc := cX4_fold) (maxL := 2) (ret := (some .int)) (by decide) rfl ?_
  intro pP eP sP mP args below meth cP s₁ B hmlP hvP
  obtain ⟨rfl, hW, hC⟩ := hvP
  have hx := B.exec
  have hb := B.bytes
  have hr := B.returns
  have hts := atoms_spec (ws := wsX4_fold) B.pre
  have hown : sP.vm.findClass RX4 = some mP.cls := findClass_of_methodNamed B.named
  have hlocks := B.notSynchronized
  have M : Mx pP mP cP cX4_fold 2 sP ([.int (nI (v)), .int (nI (q))] : List Value).toArray wsX4_fold RX4 D Z N0 := ⟨⟨hx, hb, hmlP, hown, hts⟩, hC⟩
  have hf : Fr g g := Fr.rf g
  have hS : va_S (AA N0) sP.heap sP.heap [] := va_S.rf
  have hl := lv_entry ([.int (nI (v)), .int (nI (q))]) (n := 2) (Nat.le_of_ble_eq_true rfl)
  rw [lg_entry_eq]
  generalize (lg_sl ([.int (nI (v)), .int (nI (q))]) ++ List.replicate (2 - (lg_sl ([.int (nI (v)), .int (nI (q))])).length) Slot.unset).toArray = ls at hl ⊢
  have hl : lv_has ls 2 [(0, .int (nI (v))), (1, .int (nI (q)))] := hl
  refine lv_bipush (v := nI 31) hx hb dX4_fold_0 (by decide) ?_
  refine lv_iload_n hx hb dX4_fold_2 rfl (lv_at hl 0 rfl) ?_
  refine n_imul hx hb dX4_fold_3 ?_
  refine lv_iload_n hx hb dX4_fold_4 rfl (lv_at hl 1 rfl) ?_
  refine n_iadd hx hb dX4_fold_5 ?_
  refine lv_iconst (v := nI 1) hx hb dX4_fold_6 (by decide) ?_
  refine n_iadd hx hb dX4_fold_7 ?_
  refine lv_sipush (v := nI 9973) hx hb dX4_fold_8 (by decide) ?_
  refine n_irem hx hb (by omega) (by decide) (by decide) dX4_fold_11 ?_
  -- path 1
  exact W.iret (v := nI ((31 * v + q + 1) % 9973)) hx hb hr (fun t ht hW9 => ⟨⟨nI ((31 * v + q + 1) % 9973), g, rfl, ⟨hf, ⟨rfl, rfl⟩⟩, (show Wd D Z N0 g ad t.heap by rw [ht]; exact hW)⟩, hS.F ht⟩) hS.2.2 dX4_fold_12

set_option maxHeartbeats 4000000 in
set_option maxRecDepth 100000 in
/-- 31 times the value, plus the measure, plus 1, modulo 9973 -/
theorem c_X5_extended (l : Launch) (D : va_G) (Z : Nat → Nat) (N0 : Nat) (g : T3) (ad : T2) (v q : Nat) (hv : v ≤ 9972) (hq : q ≤ 999) : Met l yX5_extended wsX5_extended ({ frames := 0, cells := 0, slots := 0, locals := 60 } : Room) (PC D Z N0 g ad [.int (nI (v)), .int (nI (q))]) (QI D Z N0 ad (fun (r : Int32) (g1 : T3) => Fr g g1 ∧ (r = nI ((31 * v + q + 1) % 9973) ∧ g = g1))) 0 0 (AA N0) := by
  refine Met.ofW (cc := cX5_extended) (maxL := 2) (ret := (some .int)) (by decide) rfl ?_
  intro pP eP sP mP args below meth cP s₁ B hmlP hvP
  obtain ⟨rfl, hW, hC⟩ := hvP
  have hx := B.exec
  have hb := B.bytes
  have hr := B.returns
  have hts := atoms_spec (ws := wsX5_extended) B.pre
  have hown : sP.vm.findClass RX5 = some mP.cls := findClass_of_methodNamed B.named
  have hlocks := B.notSynchronized
  have M : Mx pP mP cP cX5_extended 2 sP ([.int (nI (v)), .int (nI (q))] : List Value).toArray wsX5_extended RX5 D Z N0 := ⟨⟨hx, hb, hmlP, hown, hts⟩, hC⟩
  have hf : Fr g g := Fr.rf g
  have hS : va_S (AA N0) sP.heap sP.heap [] := va_S.rf
  have hl := lv_entry ([.int (nI (v)), .int (nI (q))]) (n := 2) (Nat.le_of_ble_eq_true rfl)
  rw [lg_entry_eq]
  generalize (lg_sl ([.int (nI (v)), .int (nI (q))]) ++ List.replicate (2 - (lg_sl ([.int (nI (v)), .int (nI (q))])).length) Slot.unset).toArray = ls at hl ⊢
  have hl : lv_has ls 2 [(0, .int (nI (v))), (1, .int (nI (q)))] := hl
  refine lv_bipush (v := nI 31) hx hb dX5_extended_0 (by decide) ?_
  refine lv_iload_n hx hb dX5_extended_2 rfl (lv_at hl 0 rfl) ?_
  refine n_imul hx hb dX5_extended_3 ?_
  refine lv_iload_n hx hb dX5_extended_4 rfl (lv_at hl 1 rfl) ?_
  refine n_iadd hx hb dX5_extended_5 ?_
  refine lv_iconst (v := nI 1) hx hb dX5_extended_6 (by decide) ?_
  refine n_iadd hx hb dX5_extended_7 ?_
  refine lv_sipush (v := nI 9973) hx hb dX5_extended_8 (by decide) ?_
  refine n_irem hx hb (by omega) (by decide) (by decide) dX5_extended_11 ?_
  -- path 1
  exact W.iret (v := nI ((31 * v + q + 1) % 9973)) hx hb hr (fun t ht hW9 => ⟨⟨nI ((31 * v + q + 1) % 9973), g, rfl, ⟨hf, ⟨rfl, rfl⟩⟩, (show Wd D Z N0 g ad t.heap by rw [ht]; exact hW)⟩, hS.F ht⟩) hS.2.2 dX5_extended_12

set_option maxHeartbeats 4000000 in
set_option maxRecDepth 100000 in
theorem c_X1_addMeasure (l : Launch) (D : va_G) (Z : Nat → Nat) (N0 : Nat) (g : T3) (ad : T2) (p r q : Nat) (hp2 : p < 2) (hr2 : r ≤ 2) (hq : q ≤ 999) : Met l yX1_addMeasure wsX1_addMeasure ({ frames := 1, cells := 0, slots := 0, locals := 100 } : Room) (PC D Z N0 g ad [.ref (ad 5 p), .int (nI (r)), .int (nI (q))]) (QV D Z N0 ad (fun (g1 : T3) => Fr g g1 ∧ (g1 = adm g p r q))) 0 0 (AA N0) := by
  refine Met.ofW (cc := cX1_addMeasure) (maxL := 3) (ret := none) (by decide) rfl ?_
  intro pP eP sP mP args below meth cP s₁ B hmlP hvP
  obtain ⟨rfl, hW, hC⟩ := hvP
  have hx := B.exec
  have hb := B.bytes
  have hr := B.returns
  have hts := atoms_spec (ws := wsX1_addMeasure) B.pre
  have hown : sP.vm.findClass RX1 = some mP.cls := findClass_of_methodNamed B.named
  have hlocks := B.notSynchronized
  have i_X1 : ∀ w ∈ wsX10, w ∈ wsX1_addMeasure := (fun _ h => List.mem_cons_of_mem _ (List.mem_append_left _ (List.mem_append_right _ h)))
  have k_9 : Cond.fieldLink RX1 9 "StartChain$Pass" "registers" "[I" ∈ wsX1_addMeasure := by decide +kernel
  have w_Cond_initialized_RX4 : Cond.initialized RX4 ∈ wsX1_addMeasure := by decide +kernel
  have w_Cond_static_yX4_fold : Cond.static yX4_fold ∈ wsX1_addMeasure := by decide +kernel
  have k_18 : Cond.fieldLink RX1 18 "StartChain$Pass" "entryCount" "I" ∈ wsX1_addMeasure := by decide +kernel
  have k_15 : Cond.fieldLink RX1 15 "StartChain$Pass" "log" "[I" ∈ wsX1_addMeasure := by decide +kernel
  have M : Mx pP mP cP cX1_addMeasure 3 sP ([.ref (ad 5 p), .int (nI (r)), .int (nI (q))] : List Value).toArray wsX1_addMeasure RX1 D Z N0 := ⟨⟨hx, hb, hmlP, hown, hts⟩, hC⟩
  have hf : Fr g g := Fr.rf g
  have hS : va_S (AA N0) sP.heap sP.heap [] := va_S.rf
  have hl := lv_entry ([.ref (ad 5 p), .int (nI (r)), .int (nI (q))]) (n := 3) (Nat.le_of_ble_eq_true rfl)
  rw [lg_entry_eq]
  generalize (lg_sl ([.ref (ad 5 p), .int (nI (r)), .int (nI (q))]) ++ List.replicate (3 - (lg_sl ([.ref (ad 5 p), .int (nI (r)), .int (nI (q))])).length) Slot.unset).toArray = ls at hl ⊢
  have hl : lv_has ls 3 [(0, .ref (ad 5 p)), (1, .int (nI (r))), (2, .int (nI (q)))] := hl
  refine lv_aload_n hx hb dX1_addMeasure_0 rfl (lv_at hl 0 rfl) ?_
  refine r_get M hW 5 p hp2 (v := .ref (ad 6 p)) rfl rfl i_X1 0 (by decide) k_9 (fun _ h9 => h9) rfl dX1_addMeasure_1 ?_
  refine lv_iload_n hx hb dX1_addMeasure_4 rfl (lv_at hl 1 rfl) ?_
  refine lv_aload_n hx hb dX1_addMeasure_5 rfl (lv_at hl 0 rfl) ?_
  refine r_get M hW 5 p hp2 (v := .ref (ad 6 p)) rfl rfl i_X1 0 (by decide) k_9 (fun _ h9 => h9) rfl dX1_addMeasure_6 ?_
  refine lv_iload_n hx hb dX1_addMeasure_9 rfl (lv_at hl 1 rfl) ?_
  refine r_iald M hW 6 p hp2 (n := 3) rfl (Nat.lt_of_le_of_lt hr2 (by decide)) (by decide) dX1_addMeasure_10 ?_
  have b1_z : g 6 p r ≤ 9972 := hW.2.2.1.le 6 p r 9971 rfl
  refine lv_iload_n hx hb dX1_addMeasure_11 rfl (lv_at hl 2 rfl) ?_
  refine k_ci (k_rN (As := [.int (nI (g 6 p r)), .int (nI (q))]) (rest := [.int (nI (r)), .ref (ad 6 p)]) M hW hS (c_X4_fold l D Z N0 g ad (g 6 p r) q b1_z hq) ⟨va_cnB 2 hts gX1_addMeasure_X4_fold_n40 rfl rfl rfl hC.2.2.nest (hts _ w_Cond_initialized_RX4) (by decide +kernel) ⟨Nat.le_of_ble_eq_true rfl, Nat.le_of_ble_eq_true rfl⟩, hts _ w_Cond_static_yX4_fold, trivial⟩ rfl hl.1 rfl (Nat.le_of_ble_eq_true rfl) dX1_addMeasure_12 ⟨Nat.le_of_ble_eq_true rfl, Nat.le_of_ble_eq_true rfl⟩) hS (fun r3_z g2_z H locs hp hW hS => ?_)
  obtain ⟨hf1, hp⟩ := hp
  have hf : Fr g g2_z := hf.trans hf1
  obtain ⟨rfl, hg⟩ := hp
  subst hg
  have b4_z : (31 * (g 6 p r) + q + 1) % 9973 ≤ 9972 := by omega
  refine r_ist M hW hS 6 p hp2 (n := 3) (fun _ => rfl) (Nat.lt_of_le_of_lt hr2 (by decide)) (by decide) rfl (Or.inr b4_z) dX1_addMeasure_15 (fun H locs hW hS => ?_)
  obtain ⟨g5_z, eg5_z⟩ : ∃ z, z = up g 6 p r ((31 * (g 6 p r) + q + 1) % 9973) := ⟨_, rfl⟩
  rw [← eg5_z] at hW
  have hf : Fr g g5_z := by rw [eg5_z]; exact hf.up rfl
  refine lv_aload_n hx hb dX1_addMeasure_16 rfl (lv_at hl 0 rfl) ?_
  have q6_z : g5_z 5 p 2 = g 5 p 2 := by rw [eg5_z]; first | rfl | simp [up_at]
  have b7_z : g5_z 5 p 2 ≤ 12 := hW.2.2.1.le 5 p 2 11 rfl
  refine r_get M hW 5 p hp2 (v := .int (nI (g5_z 5 p 2))) rfl rfl i_X1 2 (by decide) k_18 (fun _ h9 => h9) rfl dX1_addMeasure_17 ?_
  refine lv_aload_n hx hb dX1_addMeasure_20 rfl (lv_at hl 0 rfl) ?_
  refine r_get M hW 5 p hp2 (v := .ref (ad 7 p)) rfl rfl i_X1 1 (by decide) k_15 (fun _ h9 => h9) rfl dX1_addMeasure_21 ?_
  refine r_alen M hW 7 p hp2 (t := 0) (n := 12) rfl rfl dX1_addMeasure_24 ?_
  refine n_icmp_ge (tgt := 54) hx hb (Nat.lt_of_le_of_lt b7_z (by decide)) (by decide) dX1_addMeasure_25 (by decide) (fun c8_z => ?_) (fun c8_z => ?_)
  · -- path 1
    exact W.vret hx hb hr (fun t ht hW9 => ⟨⟨g5_z, rfl, ⟨hf, (by subst eg5_z; simp only [adm, if_pos c8_z])⟩, (show Wd D Z N0 g5_z ad t.heap by rw [ht]; exact hW)⟩, hS.F ht⟩) hS.2.2 dX1_addMeasure_54
  · refine lv_aload_n hx hb dX1_addMeasure_28 rfl (lv_at hl 0 rfl) ?_
    refine r_get M hW 5 p hp2 (v := .ref (ad 7 p)) rfl rfl i_X1 1 (by decide) k_15 (fun _ h9 => h9) rfl dX1_addMeasure_29 ?_
    refine lv_aload_n hx hb dX1_addMeasure_32 rfl (lv_at hl 0 rfl) ?_
    have q9_z : g5_z 5 p 2 = g 5 p 2 := by rw [eg5_z]; first | rfl | simp [up_at]
    have b10_z : g5_z 5 p 2 ≤ 12 := hW.2.2.1.le 5 p 2 11 rfl
    refine r_get M hW 5 p hp2 (v := .int (nI (g5_z 5 p 2))) rfl rfl i_X1 2 (by decide) k_18 (fun _ h9 => h9) rfl dX1_addMeasure_33 ?_
    refine lv_sipush (v := nI 1000) hx hb dX1_addMeasure_36 (by decide) ?_
    refine lv_iload_n hx hb dX1_addMeasure_39 rfl (lv_at hl 1 rfl) ?_
    refine n_imul hx hb dX1_addMeasure_40 ?_
    refine lv_iload_n hx hb dX1_addMeasure_41 rfl (lv_at hl 2 rfl) ?_
    refine n_iadd hx hb dX1_addMeasure_42 ?_
    refine r_ist M hW hS 7 p hp2 (n := 12) (fun _ => rfl) (by omega) (by decide) rfl (Or.inr (show 1000 * r + q ≤ 2999 by omega)) dX1_addMeasure_43 (fun H locs hW hS => ?_)
    obtain ⟨g11_z, eg11_z⟩ : ∃ z, z = up g5_z 7 p (g5_z 5 p 2) (1000 * r + q) := ⟨_, rfl⟩
    rw [← eg11_z] at hW
    have hf : Fr g g11_z := by rw [eg11_z]; exact hf.up rfl
    refine lv_aload_n hx hb dX1_addMeasure_44 rfl (lv_at hl 0 rfl) ?_
    refine lv_dup hx hb dX1_addMeasure_45 rfl ?_
    have q12_z : g11_z 5 p 2 = g 5 p 2 := by rw [eg11_z, eg5_z]; first | rfl | simp [up_at]
    have b13_z : g11_z 5 p 2 ≤ 12 := hW.2.2.1.le 5 p 2 11 rfl
    refine r_get M hW 5 p hp2 (v := .int (nI (g11_z 5 p 2))) rfl rfl i_X1 2 (by decide) k_18 (fun _ h9 => h9) rfl dX1_addMeasure_46 ?_
    refine lv_iconst (v := nI 1) hx hb dX1_addMeasure_49 (by decide) ?_
    refine n_iadd hx hb dX1_addMeasure_50 ?_
    refine r_put M hW hS 5 p hp2 rfl rfl i_X1 tyX1 tyX1_ok nmX1 2 (by decide) k_18 (fun _ h9 => h9) rfl (ty := .int) (by decide +kernel) rfl rfl (Nat.le_of_ble_eq_true rfl) rfl rfl (Or.inr (show g11_z 5 p 2 + 1 ≤ 12 by omega)) dX1_addMeasure_51 (fun H locs hW hS => ?_)
    obtain ⟨g14_z, eg14_z⟩ : ∃ z, z = up g11_z 5 p 2 (g11_z 5 p 2 + 1) := ⟨_, rfl⟩
    rw [← eg14_z] at hW
    have hf : Fr g g14_z := by rw [eg14_z]; exact hf.up rfl
    -- path 2
    exact W.vret hx hb hr (fun t ht hW9 => ⟨⟨g14_z, rfl, ⟨hf, (by subst eg14_z eg11_z eg5_z; simp only [adm, if_neg c8_z])⟩, (show Wd D Z N0 g14_z ad t.heap by rw [ht]; exact hW)⟩, hS.F ht⟩) hS.2.2 dX1_addMeasure_54

set_option maxHeartbeats 4000000 in
set_option maxRecDepth 100000 in
theorem c_X1_addRun (l : Launch) (D : va_G) (Z : Nat → Nat) (N0 : Nat) (g : T3) (ad : T2) (p s v f : Nat) (hp2 : p < 2) (hs1 : s ≤ 1) (hv : v ≤ 99) (hff : f ≤ 1) : Met l yX1_addRun wsX1_addRun ({ frames := 0, cells := 0, slots := 0, locals := 60 } : Room) (PC D Z N0 g ad [.ref (ad 5 p), .int (nI (s)), .int (nI (v)), .int (nI (f))]) (QV D Z N0 ad (fun (g1 : T3) => Fr g g1 ∧ (g1 = adr g p s v f))) 0 0 (AA N0) := by
  refine Met.ofW (cc := cX1_addRun) (maxL := 4) (ret := none) (by decide) rfl ?_
  intro pP eP sP mP args below meth cP s₁ B hmlP hvP
  obtain ⟨rfl, hW, hC⟩ := hvP
  have hx := B.exec
  have hb := B.bytes
  have hr := B.returns
  have hts := atoms_spec (ws := wsX1_addRun) B.pre
  have hown : sP.vm.findClass RX1 = some mP.cls := findClass_of_methodNamed B.named
  have hlocks := B.notSynchronized
  have i_X1 : ∀ w ∈ wsX10, w ∈ wsX1_addRun := (fun _ h => List.mem_cons_of_mem _ (List.mem_append_left _ (List.mem_append_right _ h)))
  have k_28 : Cond.fieldLink RX1 28 "StartChain$Pass" "ranCount" "I" ∈ wsX1_addRun := by decide +kernel
  have k_22 : Cond.fieldLink RX1 22 "StartChain$Pass" "slots" "[I" ∈ wsX1_addRun := by decide +kernel
  have k_31 : Cond.fieldLink RX1 31 "StartChain$Pass" "fallbackCount" "I" ∈ wsX1_addRun := by decide +kernel
  have k_25 : Cond.fieldLink RX1 25 "StartChain$Pass" "versions" "[I" ∈ wsX1_addRun := by decide +kernel
  have M : Mx pP mP cP cX1_addRun 4 sP ([.ref (ad 5 p), .int (nI (s)), .int (nI (v)), .int (nI (f))] : List Value).toArray wsX1_addRun RX1 D Z N0 := ⟨⟨hx, hb, hmlP, hown, hts⟩, hC⟩
  have hf : Fr g g := Fr.rf g
  have hS : va_S (AA N0) sP.heap sP.heap [] := va_S.rf
  have hl := lv_entry ([.ref (ad 5 p), .int (nI (s)), .int (nI (v)), .int (nI (f))]) (n := 4) (Nat.le_of_ble_eq_true rfl)
  rw [lg_entry_eq]
  generalize (lg_sl ([.ref (ad 5 p), .int (nI (s)), .int (nI (v)), .int (nI (f))]) ++ List.replicate (4 - (lg_sl ([.ref (ad 5 p), .int (nI (s)), .int (nI (v)), .int (nI (f))])).length) Slot.unset).toArray = ls at hl ⊢
  have hl : lv_has ls 4 [(0, .ref (ad 5 p)), (1, .int (nI (s))), (2, .int (nI (v))), (3, .int (nI (f)))] := hl
  refine lv_aload_n hx hb dX1_addRun_0 rfl (lv_at hl 0 rfl) ?_
  have b1_z : g 5 p 5 ≤ 6 := hW.2.2.1.le 5 p 5 5 rfl
  refine r_get M hW 5 p hp2 (v := .int (nI (g 5 p 5))) rfl rfl i_X1 5 (by decide) k_28 (fun _ h9 => h9) rfl dX1_addRun_1 ?_
  refine lv_aload_n hx hb dX1_addRun_4 rfl (lv_at hl 0 rfl) ?_
  refine r_get M hW 5 p hp2 (v := .ref (ad 8 p)) rfl rfl i_X1 3 (by decide) k_22 (fun _ h9 => h9) rfl dX1_addRun_5 ?_
  refine r_alen M hW 8 p hp2 (t := 0) (n := 6) rfl rfl dX1_addRun_8 ?_
  refine n_icmp_ge (tgt := 42) hx hb (Nat.lt_of_le_of_lt b1_z (by decide)) (by decide) dX1_addRun_9 (by decide) (fun c2_z => ?_) (fun c2_z => ?_)
  · refine lv_iload_n hx hb dX1_addRun_42 rfl (lv_at hl 3 rfl) ?_
    refine n_if_eq (tgt := 56) hx hb (Nat.lt_of_le_of_lt hff (by decide)) dX1_addRun_43 (by decide) (fun c3_z => ?_) (fun c3_z => ?_)
    · -- path 1
      exact W.vret hx hb hr (fun t ht hW9 => ⟨⟨g, rfl, ⟨hf, (by simp only [adr, adr0, if_pos c2_z, if_pos c3_z])⟩, (show Wd D Z N0 g ad t.heap by rw [ht]; exact hW)⟩, hS.F ht⟩) hS.2.2 dX1_addRun_56
    · refine lv_aload_n hx hb dX1_addRun_46 rfl (lv_at hl 0 rfl) ?_
      refine lv_dup hx hb dX1_addRun_47 rfl ?_
      refine r_get M hW 5 p hp2 (v := .int (nI (g 5 p 6))) rfl rfl i_X1 6 (by decide) k_31 (fun _ h9 => h9) rfl dX1_addRun_48 ?_
      refine lv_iconst (v := nI 1) hx hb dX1_addRun_51 (by decide) ?_
      refine n_iadd hx hb dX1_addRun_52 ?_
      refine r_put M hW hS 5 p hp2 rfl rfl i_X1 tyX1 tyX1_ok nmX1 6 (by decide) k_31 (fun _ h9 => h9) rfl (ty := .int) (by decide +kernel) rfl rfl (Nat.le_of_ble_eq_true rfl) rfl rfl (Or.inl rfl) dX1_addRun_53 (fun H locs hW hS => ?_)
      obtain ⟨g4_z, eg4_z⟩ : ∃ z, z = up g 5 p 6 (g 5 p 6 + 1) := ⟨_, rfl⟩
      rw [← eg4_z] at hW
      have hf : Fr g g4_z := by rw [eg4_z]; exact hf.up rfl
      -- path 2
      exact W.vret hx hb hr (fun t ht hW9 => ⟨⟨g4_z, rfl, ⟨hf, (by subst eg4_z; simp only [adr, adr0, if_pos c2_z, if_neg c3_z])⟩, (show Wd D Z N0 g4_z ad t.heap by rw [ht]; exact hW)⟩, hS.F ht⟩) hS.2.2 dX1_addRun_56
  · refine lv_aload_n hx hb dX1_addRun_12 rfl (lv_at hl 0 rfl) ?_
    refine r_get M hW 5 p hp2 (v := .ref (ad 8 p)) rfl rfl i_X1 3 (by decide) k_22 (fun _ h9 => h9) rfl dX1_addRun_13 ?_
    refine lv_aload_n hx hb dX1_addRun_16 rfl (lv_at hl 0 rfl) ?_
    have b5_z : g 5 p 5 ≤ 6 := hW.2.2.1.le 5 p 5 5 rfl
    refine r_get M hW 5 p hp2 (v := .int (nI (g 5 p 5))) rfl rfl i_X1 5 (by decide) k_28 (fun _ h9 => h9) rfl dX1_addRun_17 ?_
    refine lv_iload_n hx hb dX1_addRun_20 rfl (lv_at hl 1 rfl) ?_
    refine r_ist M hW hS 8 p hp2 (n := 6) (fun _ => rfl) (by omega) (by decide) rfl (Or.inr hs1) dX1_addRun_21 (fun H locs hW hS => ?_)
    obtain ⟨g6_z, eg6_z⟩ : ∃ z, z = up g 8 p (g 5 p 5) s := ⟨_, rfl⟩
    rw [← eg6_z] at hW
    have hf : Fr g g6_z := by rw [eg6_z]; exact hf.up rfl
    refine lv_aload_n hx hb dX1_addRun_22 rfl (lv_at hl 0 rfl) ?_
    refine r_get M hW 5 p hp2 (v := .ref (ad 9 p)) rfl rfl i_X1 4 (by decide) k_25 (fun _ h9 => h9) rfl dX1_addRun_23 ?_
    refine lv_aload_n hx hb dX1_addRun_26 rfl (lv_at hl 0 rfl) ?_
    have q7_z : g6_z 5 p 5 = g 5 p 5 := by rw [eg6_z]; first | rfl | simp [up_at]
    have b8_z : g6_z 5 p 5 ≤ 6 := hW.2.2.1.le 5 p 5 5 rfl
    refine r_get M hW 5 p hp2 (v := .int (nI (g6_z 5 p 5))) rfl rfl i_X1 5 (by decide) k_28 (fun _ h9 => h9) rfl dX1_addRun_27 ?_
    refine lv_iload_n hx hb dX1_addRun_30 rfl (lv_at hl 2 rfl) ?_
    refine r_ist M hW hS 9 p hp2 (n := 6) (fun _ => rfl) (by omega) (by decide) rfl (Or.inr hv) dX1_addRun_31 (fun H locs hW hS => ?_)
    obtain ⟨g9_z, eg9_z⟩ : ∃ z, z = up g6_z 9 p (g6_z 5 p 5) v := ⟨_, rfl⟩
    rw [← eg9_z] at hW
    have hf : Fr g g9_z := by rw [eg9_z]; exact hf.up rfl
    refine lv_aload_n hx hb dX1_addRun_32 rfl (lv_at hl 0 rfl) ?_
    refine lv_dup hx hb dX1_addRun_33 rfl ?_
    have q10_z : g9_z 5 p 5 = g 5 p 5 := by rw [eg9_z, eg6_z]; first | rfl | simp [up_at]
    have b11_z : g9_z 5 p 5 ≤ 6 := hW.2.2.1.le 5 p 5 5 rfl
    refine r_get M hW 5 p hp2 (v := .int (nI (g9_z 5 p 5))) rfl rfl i_X1 5 (by decide) k_28 (fun _ h9 => h9) rfl dX1_addRun_34 ?_
    refine lv_iconst (v := nI 1) hx hb dX1_addRun_37 (by decide) ?_
    refine n_iadd hx hb dX1_addRun_38 ?_
    refine r_put M hW hS 5 p hp2 rfl rfl i_X1 tyX1 tyX1_ok nmX1 5 (by decide) k_28 (fun _ h9 => h9) rfl (ty := .int) (by decide +kernel) rfl rfl (Nat.le_of_ble_eq_true rfl) rfl rfl (Or.inr (show g9_z 5 p 5 + 1 ≤ 6 by omega)) dX1_addRun_39 (fun H locs hW hS => ?_)
    obtain ⟨g12_z, eg12_z⟩ : ∃ z, z = up g9_z 5 p 5 (g9_z 5 p 5 + 1) := ⟨_, rfl⟩
    rw [← eg12_z] at hW
    have hf : Fr g g12_z := by rw [eg12_z]; exact hf.up rfl
    refine lv_iload_n hx hb dX1_addRun_42 rfl (lv_at hl 3 rfl) ?_
    refine n_if_eq (tgt := 56) hx hb (Nat.lt_of_le_of_lt hff (by decide)) dX1_addRun_43 (by decide) (fun c13_z => ?_) (fun c13_z => ?_)
    · -- path 3
      exact W.vret hx hb hr (fun t ht hW9 => ⟨⟨g12_z, rfl, ⟨hf, (by subst eg12_z eg9_z eg6_z; simp only [adr, adr0, if_neg c2_z, if_pos c13_z])⟩, (show Wd D Z N0 g12_z ad t.heap by rw [ht]; exact hW)⟩, hS.F ht⟩) hS.2.2 dX1_addRun_56
    · refine lv_aload_n hx hb dX1_addRun_46 rfl (lv_at hl 0 rfl) ?_
      refine lv_dup hx hb dX1_addRun_47 rfl ?_
      have q14_z : g12_z 5 p 6 = g 5 p 6 := by rw [eg12_z, eg9_z, eg6_z]; first | rfl | simp [up_at]
      refine r_get M hW 5 p hp2 (v := .int (nI (g12_z 5 p 6))) rfl rfl i_X1 6 (by decide) k_31 (fun _ h9 => h9) rfl dX1_addRun_48 ?_
      refine lv_iconst (v := nI 1) hx hb dX1_addRun_51 (by decide) ?_
      refine n_iadd hx hb dX1_addRun_52 ?_
      refine r_put M hW hS 5 p hp2 rfl rfl i_X1 tyX1 tyX1_ok nmX1 6 (by decide) k_31 (fun _ h9 => h9) rfl (ty := .int) (by decide +kernel) rfl rfl (Nat.le_of_ble_eq_true rfl) rfl rfl (Or.inl rfl) dX1_addRun_53 (fun H locs hW hS => ?_)
      obtain ⟨g15_z, eg15_z⟩ : ∃ z, z = up g12_z 5 p 6 (g12_z 5 p 6 + 1) := ⟨_, rfl⟩
      rw [← eg15_z] at hW
      have hf : Fr g g15_z := by rw [eg15_z]; exact hf.up rfl
      -- path 4
      exact W.vret hx hb hr (fun t ht hW9 => ⟨⟨g15_z, rfl, ⟨hf, (by subst eg15_z eg12_z eg9_z eg6_z; simp only [adr, adr0, if_neg c2_z, if_neg c13_z])⟩, (show Wd D Z N0 g15_z ad t.heap by rw [ht]; exact hW)⟩, hS.F ht⟩) hS.2.2 dX1_addRun_56

set_option maxHeartbeats 4000000 in
set_option maxRecDepth 100000 in
theorem c_X3_spare (l : Launch) (D : va_G) (Z : Nat → Nat) (N0 : Nat) (g : T3) (ad : T2) (i : Nat) (hl10 : lv g 10 i) : Met l yX3_spare wsX3_spare ({ frames := 0, cells := 0, slots := 0, locals := 60 } : Room) (PC D Z N0 g ad [.ref (ad 10 i)]) (QI D Z N0 ad (fun (r : Int32) (g1 : T3) => Fr g g1 ∧ (r = nI (if g 10 i 2 = 0 then 1 else 0) ∧ g = g1))) 0 0 (AA N0) := by
  refine Met.ofW (cc := cX3_spare) (maxL := 1) (ret := (some .int)) (by decide) rfl ?_
  intro pP eP sP mP args below meth cP s₁ B hmlP hvP
  obtain ⟨rfl, hW, hC⟩ := hvP
  have hx := B.exec
  have hb := B.bytes
  have hr := B.returns
  have hts := atoms_spec (ws := wsX3_spare) B.pre
  have hown : sP.vm.findClass RX3 = some mP.cls := findClass_of_methodNamed B.named
  have hlocks := B.notSynchronized
  have i_X3 : ∀ w ∈ wsX30, w ∈ wsX3_spare := (fun _ h => List.mem_cons_of_mem _ (List.mem_append_right _ h))
  have k_21 : Cond.fieldLink RX3 21 "StartChain$Stage" "active" "I" ∈ wsX3_spare := by decide +kernel
  have M : Mx pP mP cP cX3_spare 1 sP ([.ref (ad 10 i)] : List Value).toArray wsX3_spare RX3 D Z N0 := ⟨⟨hx, hb, hmlP, hown, hts⟩, hC⟩
  have hf : Fr g g := Fr.rf g
  have hS : va_S (AA N0) sP.heap sP.heap [] := va_S.rf
  have hl := lv_entry ([.ref (ad 10 i)]) (n := 1) (Nat.le_of_ble_eq_true rfl)
  rw [lg_entry_eq]
  generalize (lg_sl ([.ref (ad 10 i)]) ++ List.replicate (1 - (lg_sl ([.ref (ad 10 i)])).length) Slot.unset).toArray = ls at hl ⊢
  have hl : lv_has ls 1 [(0, .ref (ad 10 i))] := hl
  refine lv_aload_n hx hb dX3_spare_0 rfl (lv_at hl 0 rfl) ?_
  have b1_z : g 10 i 2 ≤ 1 := hW.2.2.1.le 10 i 2 0 rfl
  refine r_get M hW 10 i (hf.lv hl10) (v := .int (nI (g 10 i 2))) rfl rfl i_X3 2 (by decide) k_21 (fun _ h9 => h9) rfl dX3_spare_1 ?_
  refine n_if_ne (tgt := 11) hx hb (Nat.lt_of_le_of_lt b1_z (by decide)) dX3_spare_4 (by decide) (fun c2_z => ?_) (fun c2_z => ?_)
  · refine lv_iconst (v := nI 0) hx hb dX3_spare_11 (by decide) ?_
    -- path 1
    exact W.iret (v := nI (0)) hx hb hr (fun t ht hW9 => ⟨⟨nI (0), g, rfl, ⟨hf, ⟨by rw [if_neg c2_z], rfl⟩⟩, (show Wd D Z N0 g ad t.heap by rw [ht]; exact hW)⟩, hS.F ht⟩) hS.2.2 dX3_spare_12
  · refine lv_iconst (v := nI 1) hx hb dX3_spare_7 (by decide) ?_
    refine lv_goto (tgt := 12) hx hb dX3_spare_8 (by decide) ?_
    -- path 2
    exact W.iret (v := nI (1)) hx hb hr (fun t ht hW9 => ⟨⟨nI (1), g, rfl, ⟨hf, ⟨by rw [if_pos c2_z], rfl⟩⟩, (show Wd D Z N0 g ad t.heap by rw [ht]; exact hW)⟩, hS.F ht⟩) hS.2.2 dX3_spare_12

set_option maxHeartbeats 4000000 in
set_option maxRecDepth 100000 in
/-- judge: e, k, v, b or - -/
theorem c_X4_judge (l : Launch) (D : va_G) (Z : Nat → Nat) (N0 : Nat) (g : T3) (ad : T2) (i s : Nat) (hl10 : lv g 10 i) (hs : s < 2) : Met l yX4_judge wsX4_judge ({ frames := 0, cells := 0, slots := 0, locals := 60 } : Room) (PC D Z N0 g ad [.ref (ad 0 0), .ref (ad 10 i), .int (nI (s))]) (QI D Z N0 ad (fun (r : Int32) (g1 : T3) => Fr g g1 ∧ (r = nI (jg g i s) ∧ g = g1))) 0 0 (AA N0) := by
  refine Met.ofW (cc := cX4_judge) (maxL := 4) (ret := (some .char)) (by decide) rfl ?_
  intro pP eP sP mP args below meth cP s₁ B hmlP hvP
  obtain ⟨rfl, hW, hC⟩ := hvP
  have hx := B.exec
  have hb := B.bytes
  have hr := B.returns
  have hts := atoms_spec (ws := wsX4_judge) B.pre
  have hown : sP.vm.findClass RX4 = some mP.cls := findClass_of_methodNamed B.named
  have hlocks := B.notSynchronized
  have i_X3 : ∀ w ∈ wsX30, w ∈ wsX4_judge := (fun _ h => List.mem_cons_of_mem _ (List.mem_append_left _ (List.mem_append_left _ (List.mem_append_left _ (List.mem_append_right _ h)))))
  have k_246 : Cond.fieldLink RX4 246 "StartChain$Stage" "images" "[LStartChain$Image;" ∈ wsX4_judge := by decide +kernel
  have i_X4 : ∀ w ∈ wsX40, w ∈ wsX4_judge := (fun _ h => List.mem_cons_of_mem _ (List.mem_append_left _ (List.mem_append_left _ (List.mem_append_right _ h))))
  have k_9 : Cond.fieldLink RX4 9 "StartChain" "trusted" "[Z" ∈ wsX4_judge := by decide +kernel
  have i_X0 : ∀ w ∈ wsX00, w ∈ wsX4_judge := (fun _ h => List.mem_cons_of_mem _ (List.mem_append_left _ (List.mem_append_right _ h)))
  have k_281 : Cond.fieldLink RX4 281 "StartChain$Image" "key" "I" ∈ wsX4_judge := by decide +kernel
  have k_102 : Cond.fieldLink RX4 102 "StartChain$Image" "version" "I" ∈ wsX4_judge := by decide +kernel
  have k_116 : Cond.fieldLink RX4 116 "StartChain$Stage" "counter" "I" ∈ wsX4_judge := by decide +kernel
  have k_98 : Cond.fieldLink RX4 98 "StartChain$Image" "isBad" "Z" ∈ wsX4_judge := by decide +kernel
  have M : Mx pP mP cP cX4_judge 4 sP ([.ref (ad 0 0), .ref (ad 10 i), .int (nI (s))] : List Value).toArray wsX4_judge RX4 D Z N0 := ⟨⟨hx, hb, hmlP, hown, hts⟩, hC⟩
  have hf : Fr g g := Fr.rf g
  have hS : va_S (AA N0) sP.heap sP.heap [] := va_S.rf
  have hl := lv_entry ([.ref (ad 0 0), .ref (ad 10 i), .int (nI (s))]) (n := 4) (Nat.le_of_ble_eq_true rfl)
  rw [lg_entry_eq]
  generalize (lg_sl ([.ref (ad 0 0), .ref (ad 10 i), .int (nI (s))]) ++ List.replicate (4 - (lg_sl ([.ref (ad 0 0), .ref (ad 10 i), .int (nI (s))])).length) Slot.unset).toArray = ls at hl ⊢
  have hl : lv_has ls 4 [(0, .ref (ad 0 0)), (1, .ref (ad 10 i)), (2, .int (nI (s)))] := hl
  refine lv_aload_n hx hb dX4_judge_0 rfl (lv_at hl 1 rfl) ?_
  refine r_get M hW 10 i (hf.lv hl10) (v := .ref (ad 11 i)) rfl rfl i_X3 1 (by decide) k_246 (fun _ h9 => h9) rfl dX4_judge_1 ?_
  refine lv_iload_n hx hb dX4_judge_4 rfl (lv_at hl 2 rfl) ?_
  refine r_aald M hW 11 i (hf.lv hl10) (t := 3) (C := "StartChain$Image") rfl rfl hs (by decide) dX4_judge_5 ?_
  by_cases c1_z : g 11 i s = 0
  · refine W.eq (g2 := F0 mP 6 ls (.null :: [])) (congrArg (fun z => F0 mP 6 ls (va_rf z :: [])) (if_pos c1_z)) ?_
    refine lv_astore_nN (lv' := [(3, .null), (0, .ref (ad 0 0)), (1, .ref (ad 10 i)), (2, .int (nI (s)))]) hx hb dX4_judge_6 rfl hl (by decide) rfl (fun ls hl => ?_)
    refine lv_aload_nN hx hb dX4_judge_7 rfl (lv_at hl 0 rfl) ?_
    refine lv_ifnonnullN hx hb dX4_judge_8 ?_
    refine lv_bipush (v := nI 101) hx hb dX4_judge_11 (by decide) ?_
    -- path 1
    exact W.zret (v := nI (101)) (ty := .char) hx hb hr (by decide) (fun t ht hW9 => ⟨⟨nI (101), g, rfl, ⟨hf, ⟨congrArg nI (by unfold jg; rw [if_pos c1_z]), rfl⟩⟩, (show Wd D Z N0 g ad t.heap by rw [ht]; exact hW)⟩, hS.F ht⟩) hS.2.2 dX4_judge_13
  · refine W.eq (g2 := F0 mP 6 ls (.ref (ad 12 (2 * i + s)) :: [])) (congrArg (fun z => F0 mP 6 ls (va_rf z :: [])) (if_neg c1_z)) ?_
    have hl2_z : lv g 12 (2 * i + s) := lv12 (hf.lv hl10) hs c1_z
    refine lv_astore_n (lv' := [(3, .ref (ad 12 (2 * i + s))), (0, .ref (ad 0 0)), (1, .ref (ad 10 i)), (2, .int (nI (s)))]) hx hb dX4_judge_6 rfl hl (by decide) rfl (fun ls hl => ?_)
    refine lv_aload_n hx hb dX4_judge_7 rfl (lv_at hl 0 rfl) ?_
    refine lv_ifnonnull (tgt := 14) hx hb dX4_judge_8 (by decide) ?_
    refine lv_aload_n hx hb dX4_judge_14 rfl (lv_at hl 1 rfl) ?_
    refine r_get M hW 0 0 (lv0 _) (v := .ref (ad 1 0)) rfl rfl i_X4 0 (by decide) k_9 (fun _ h9 => h9) rfl dX4_judge_15 ?_
    refine lv_aload_n hx hb dX4_judge_18 rfl (lv_at hl 0 rfl) ?_
    have b3_z : g 12 (2 * i + s) 0 ≤ 9 := hW.2.2.1.le 12 (2 * i + s) 0 8 rfl
    refine r_get M hW 12 (2 * i + s) (hf.lv hl2_z) (v := .int (nI (g 12 (2 * i + s) 0))) rfl rfl i_X0 0 (by decide) k_281 (fun _ h9 => h9) rfl dX4_judge_19 ?_
    refine r_zald M hW 1 0 (lv1 _) (n := 10) rfl (Nat.lt_of_le_of_lt b3_z (by decide)) (by decide) dX4_judge_22 ?_
    have b4_z : g 1 0 (g 12 (2 * i + s) 0) ≤ 1 := hW.2.2.1.le 1 0 (g 12 (2 * i + s) 0) 0 rfl
    refine n_if_ne (tgt := 29) hx hb (Nat.lt_of_le_of_lt b4_z (by decide)) dX4_judge_23 (by decide) (fun c5_z => ?_) (fun c5_z => ?_)
    · refine lv_aload_n hx hb dX4_judge_29 rfl (lv_at hl 0 rfl) ?_
      have b6_z : g 12 (2 * i + s) 1 ≤ 99 := hW.2.2.1.le 12 (2 * i + s) 1 98 rfl
      refine r_get M hW 12 (2 * i + s) (hf.lv hl2_z) (v := .int (nI (g 12 (2 * i + s) 1))) rfl rfl i_X0 1 (by decide) k_102 (fun _ h9 => h9) rfl dX4_judge_30 ?_
      refine lv_aload_n hx hb dX4_judge_33 rfl (lv_at hl 2 rfl) ?_
      have b7_z : g 10 i 3 ≤ 99 := hW.2.2.1.le 10 i 3 98 rfl
      refine r_get M hW 10 i (hf.lv hl10) (v := .int (nI (g 10 i 3))) rfl rfl i_X3 3 (by decide) k_116 (fun _ h9 => h9) rfl dX4_judge_34 ?_
      refine n_icmp_ge (tgt := 43) hx hb (Nat.lt_of_le_of_lt b6_z (by decide)) (Nat.lt_of_le_of_lt b7_z (by decide)) dX4_judge_37 (by decide) (fun c8_z => ?_) (fun c8_z => ?_)
      · refine lv_aload_n hx hb dX4_judge_43 rfl (lv_at hl 0 rfl) ?_
        have b9_z : g 12 (2 * i + s) 3 ≤ 1 := hW.2.2.1.le 12 (2 * i + s) 3 0 rfl
        refine r_get M hW 12 (2 * i + s) (hf.lv hl2_z) (v := .int (nI (g 12 (2 * i + s) 3))) rfl rfl i_X0 3 (by decide) k_98 (fun _ h9 => h9) rfl dX4_judge_44 ?_
        refine n_if_eq (tgt := 55) hx hb (Nat.lt_of_le_of_lt b9_z (by decide)) dX4_judge_47 (by decide) (fun c10_z => ?_) (fun c10_z => ?_)
        · refine lv_bipush (v := nI 45) hx hb dX4_judge_55 (by decide) ?_
          -- path 2
          exact W.zret (v := nI (45)) (ty := .char) hx hb hr (by decide) (fun t ht hW9 => ⟨⟨nI (45), g, rfl, ⟨hf, ⟨congrArg nI (by unfold jg; rw [if_neg c1_z, if_neg c5_z, if_pos c8_z, if_pos c10_z]), rfl⟩⟩, (show Wd D Z N0 g ad t.heap by rw [ht]; exact hW)⟩, hS.F ht⟩) hS.2.2 dX4_judge_57
        · refine lv_bipush (v := nI 98) hx hb dX4_judge_50 (by decide) ?_
          refine lv_goto (tgt := 57) hx hb dX4_judge_52 (by decide) ?_
          -- path 3
          exact W.zret (v := nI (98)) (ty := .char) hx hb hr (by decide) (fun t ht hW9 => ⟨⟨nI (98), g, rfl, ⟨hf, ⟨congrArg nI (by unfold jg; rw [if_neg c1_z, if_neg c5_z, if_pos c8_z, if_neg c10_z]), rfl⟩⟩, (show Wd D Z N0 g ad t.heap by rw [ht]; exact hW)⟩, hS.F ht⟩) hS.2.2 dX4_judge_57
      · refine lv_bipush (v := nI 118) hx hb dX4_judge_40 (by decide) ?_
        -- path 4
        exact W.zret (v := nI (118)) (ty := .char) hx hb hr (by decide) (fun t ht hW9 => ⟨⟨nI (118), g, rfl, ⟨hf, ⟨congrArg nI (by unfold jg; rw [if_neg c1_z, if_neg c5_z, if_neg c8_z]), rfl⟩⟩, (show Wd D Z N0 g ad t.heap by rw [ht]; exact hW)⟩, hS.F ht⟩) hS.2.2 dX4_judge_42
    · refine lv_bipush (v := nI 107) hx hb dX4_judge_26 (by decide) ?_
      -- path 5
      exact W.zret (v := nI (107)) (ty := .char) hx hb hr (by decide) (fun t ht hW9 => ⟨⟨nI (107), g, rfl, ⟨hf, ⟨congrArg nI (by unfold jg; rw [if_neg c1_z, if_pos c5_z]), rfl⟩⟩, (show Wd D Z N0 g ad t.heap by rw [ht]; exact hW)⟩, hS.F ht⟩) hS.2.2 dX4_judge_28
