set_option maxHeartbeats 4000000 in
set_option maxRecDepth 100000 in
theorem c_J3_checkIndex_8e157 (l : Launch) (D : va_G) (Z : Nat → Nat) (N0 : Nat) (g : T3) (ad : T2) (i n : Nat) (hi : i < n) (hn : n < 2 ^ 31) : Met l yJ3_checkIndex_8e157 wsJ3_checkIndex_8e157 ({ frames := 0, cells := 0, slots := 0, locals := 60 } : Room) (PC D Z N0 g ad [.int (nI (i)), .int (nI (n)), .null]) (QI D Z N0 ad (fun (r : Int32) (g1 : T3) => Fr g g1 ∧ (r = nI i ∧ g = g1))) 0 0 (AA N0) := by
  refine Met.ofW (cc := cJ3_checkIndex_8e157) (maxL := 3) (ret := (some .int)) (by decide) rfl ?_
  intro p e s m args below meth c s₁ B hml hv
  obtain ⟨rfl, hW, hC⟩ := hv
  have hx := B.exec
  have hb := B.bytes
  have hr := B.returns
  have hts := atoms_spec (ws := wsJ3_checkIndex_8e157) B.pre
  have hown : s.vm.findClass RJ3 = some m.cls := findClass_of_methodNamed B.named
  have hlocks := B.notSynchronized
  have M : Mx p m c cJ3_checkIndex_8e157 3 s ([.int (nI (i)), .int (nI (n)), .null] : List Value).toArray wsJ3_checkIndex_8e157 RJ3 D Z N0 := ⟨⟨hx, hb, hml, hown, hts⟩, hC⟩
  have hf : Fr g g := Fr.rf g
  have hS : va_S (AA N0) s.heap s.heap [] := va_S.rf
  have hl := lv_entry ([.int (nI (i)), .int (nI (n)), .null]) (n := 3) (Nat.le_of_ble_eq_true rfl)
  rw [lg_entry_eq]
  generalize (lg_sl ([.int (nI (i)), .int (nI (n)), .null]) ++ List.replicate (3 - (lg_sl ([.int (nI (i)), .int (nI (n)), .null])).length) Slot.unset).toArray = ls at hl ⊢
  have hl : lv_has ls 3 [(0, .int (nI (i))), (1, .int (nI (n))), (2, .null)] := hl
  refine lv_iload_n hx hb dJ3_checkIndex_8e157_0 rfl (lv_at hl 0 rfl) ?_
  refine n_if_lt (tgt := 9) hx hb (by omega) dJ3_checkIndex_8e157_1 (by decide) (fun c1_z => ?_) (fun c1_z => ?_)
  · exact absurd c1_z (by omega)
  · refine lv_iload_n hx hb dJ3_checkIndex_8e157_4 rfl (lv_at hl 0 rfl) ?_
    refine lv_iload_n hx hb dJ3_checkIndex_8e157_5 rfl (lv_at hl 1 rfl) ?_
    refine n_icmp_lt (tgt := 16) hx hb (by omega) (by omega) dJ3_checkIndex_8e157_6 (by decide) (fun c2_z => ?_) (fun c2_z => ?_)
    · refine lv_iload_n hx hb dJ3_checkIndex_8e157_16 rfl (lv_at hl 0 rfl) ?_
      -- path 1
      exact W.iret (v := nI (i)) hx hb hr (fun t ht hW9 => ⟨⟨nI (i), g, rfl, ⟨hf, ⟨rfl, rfl⟩⟩, (show Wd D Z N0 g ad t.heap by rw [ht]; exact hW)⟩, hS.F ht⟩) hS.2.2 dJ3_checkIndex_8e157_17
    · exact absurd hi c2_z

set_option maxHeartbeats 4000000 in
set_option maxRecDepth 100000 in
theorem c_J15_checkIndex_7cf53 (l : Launch) (D : va_G) (Z : Nat → Nat) (N0 : Nat) (g : T3) (ad : T2) (i n : Nat) (hj : i < n) (hn : n < 2 ^ 31) : Met l yJ15_checkIndex_7cf53 wsJ15_checkIndex_7cf53 ({ frames := 1, cells := 0, slots := 0, locals := 100 } : Room) (PC D Z N0 g ad [.int (nI (i)), .int (nI (n))]) (QI D Z N0 ad (fun (r : Int32) (g1 : T3) => Fr g g1 ∧ (r = nI i ∧ g = g1))) 0 0 (AA N0) := by
  refine Met.ofW (cc := cJ15_checkIndex_7cf53) (maxL := 2) (ret := (some .int)) (by decide) rfl ?_
  intro p e s m args below meth c s₁ B hml hv
  obtain ⟨rfl, hW, hC⟩ := hv
  have hx := B.exec
  have hb := B.bytes
  have hr := B.returns
  have hts := atoms_spec (ws := wsJ15_checkIndex_7cf53) B.pre
  have hown : s.vm.findClass RJ15 = some m.cls := findClass_of_methodNamed B.named
  have hlocks := B.notSynchronized
  have M : Mx p m c cJ15_checkIndex_7cf53 2 s ([.int (nI (i)), .int (nI (n))] : List Value).toArray wsJ15_checkIndex_7cf53 RJ15 D Z N0 := ⟨⟨hx, hb, hml, hown, hts⟩, hC⟩
  have hf : Fr g g := Fr.rf g
  have hS : va_S (AA N0) s.heap s.heap [] := va_S.rf
  have hl := lv_entry ([.int (nI (i)), .int (nI (n))]) (n := 2) (Nat.le_of_ble_eq_true rfl)
  rw [lg_entry_eq]
  generalize (lg_sl ([.int (nI (i)), .int (nI (n))]) ++ List.replicate (2 - (lg_sl ([.int (nI (i)), .int (nI (n))])).length) Slot.unset).toArray = ls at hl ⊢
  have hl : lv_has ls 2 [(0, .int (nI (i))), (1, .int (nI (n)))] := hl
  refine lv_iload_n hx hb dJ15_checkIndex_7cf53_0 rfl (lv_at hl 0 rfl) ?_
  refine lv_iload_n hx hb dJ15_checkIndex_7cf53_1 rfl (lv_at hl 1 rfl) ?_
  refine lv_null hx hb dJ15_checkIndex_7cf53_2 ?_
  refine k_ci (k_rS (As := [.int (nI (i)), .int (nI (n)), .null]) (rest := []) M hW hS (c_J3_checkIndex_8e157 l D Z N0 g ad i n hj hn) (va_cwS 3 hts gJ15_checkIndex_7cf53_J3_checkIndex_8e157 rfl rfl rfl (by decide +kernel) ⟨Nat.le_of_ble_eq_true rfl, Nat.le_of_ble_eq_true rfl⟩) rfl hl.1 rfl (Nat.le_of_ble_eq_true rfl) dJ15_checkIndex_7cf53_3 ⟨Nat.le_of_ble_eq_true rfl, Nat.le_of_ble_eq_true rfl⟩) hS (fun r2_z g1_z H locs hp hW hS => ?_)
  obtain ⟨hf1, hp⟩ := hp
  have hf : Fr g g1_z := hf.trans hf1
  obtain ⟨rfl, hg⟩ := hp
  subst hg
  -- path 1
  exact W.iret (v := nI (i)) hx hb hr (fun t ht hW9 => ⟨⟨nI (i), g, rfl, ⟨hf, ⟨rfl, rfl⟩⟩, (show Wd D Z N0 g ad t.heap by rw [ht]; exact hW)⟩, hS.F ht⟩) hS.2.2 dJ15_checkIndex_7cf53_6

set_option maxHeartbeats 4000000 in
set_option maxRecDepth 100000 in
theorem c_Jx4a65c_elementData_915e3 (l : Launch) (D : va_G) (Z : Nat → Nat) (N0 : Nat) (g : T3) (ad : T2) (L j : Nat) (hL : L < 2) (hj : j < g 3 L 2) : Met l yJx4a65c_elementData_915e3 wsJx4a65c_elementData_915e3 ({ frames := 0, cells := 0, slots := 0, locals := 60 } : Room) (PC D Z N0 g ad [.ref (ad 3 L), .int (nI (j))]) (QR D Z N0 ad (fun (r : Nat) (g1 : T3) => Fr g g1 ∧ (r = ad (10 + 3 * L) j ∧ g = g1))) 0 0 (AA N0) := by
  refine Met.ofW (cc := cJx4a65c_elementData_915e3) (maxL := 2) (ret := (some (.object "java/lang/Object"))) (by decide) rfl ?_
  intro p e s m args below meth c s₁ B hml hv
  obtain ⟨rfl, hW, hC⟩ := hv
  have hx := B.exec
  have hb := B.bytes
  have hr := B.returns
  have hts := atoms_spec (ws := wsJx4a65c_elementData_915e3) B.pre
  have hown : s.vm.findClass RJx4a65c = some m.cls := findClass_of_methodNamed B.named
  have hlocks := B.notSynchronized
  have i_Jx4a65c : ∀ w ∈ wsJx4a65c0, w ∈ wsJx4a65c_elementData_915e3 := (fun _ h => List.mem_cons_of_mem _ (List.mem_append_right _ h))
  have k_9 : Cond.fieldLink RJx4a65c 9 "java/util/ArrayList" "elementData" "[Ljava/lang/Object;" ∈ wsJx4a65c_elementData_915e3 := by decide +kernel
  have M : Mx p m c cJx4a65c_elementData_915e3 2 s ([.ref (ad 3 L), .int (nI (j))] : List Value).toArray wsJx4a65c_elementData_915e3 RJx4a65c D Z N0 := ⟨⟨hx, hb, hml, hown, hts⟩, hC⟩
  have hf : Fr g g := Fr.rf g
  have hS : va_S (AA N0) s.heap s.heap [] := va_S.rf
  have hl := lv_entry ([.ref (ad 3 L), .int (nI (j))]) (n := 2) (Nat.le_of_ble_eq_true rfl)
  rw [lg_entry_eq]
  generalize (lg_sl ([.ref (ad 3 L), .int (nI (j))]) ++ List.replicate (2 - (lg_sl ([.ref (ad 3 L), .int (nI (j))])).length) Slot.unset).toArray = ls at hl ⊢
  have hl : lv_has ls 2 [(0, .ref (ad 3 L)), (1, .int (nI (j)))] := hl
  refine lv_aload_n hx hb dJx4a65c_elementData_915e3_0 rfl (lv_at hl 0 rfl) ?_
  refine r_get M hW 3 L hL (v := .ref (if g 3 L 1 = 0 then Z 6 else ad 4 L)) rfl rfl i_Jx4a65c 1 (by decide) k_9 (fun _ h9 => h9) rfl dJx4a65c_elementData_915e3_1 ?_
  refine W.eq (g2 := F0 m 4 ls (.ref (ad 4 L) :: [])) (congrArg (fun z => F0 m 4 ls (.ref z :: [])) (if_neg ((hW.2.2.2 L hL).2.1 (by omega)))) ?_
  refine lv_iload_n hx hb dJx4a65c_elementData_915e3_4 rfl (lv_at hl 1 rfl) ?_
  refine r_aald M hW 4 L (hf.lv ⟨hL, (hW.2.2.2 L hL).2.1 (by omega)⟩) (t := 2) (C := "java/lang/Object") rfl rfl (Nat.lt_trans hj (Nat.lt_of_le_of_lt (hW.2.2.1.le 3 L 2 7 rfl) (by decide))) (by decide) dJx4a65c_elementData_915e3_5 ?_
  refine W.eq (g2 := F0 m 6 ls (.ref (ad (10 + 3 * L) j) :: [])) (congrArg (fun z => F0 m 6 ls (va_rf z :: [])) (if_neg ((hW.2.2.2 L hL).2.2 j hj))) ?_
  -- path 1
  exact W.aret (v := .ref (ad (10 + 3 * L) j)) hx hb hr (Or.inl ⟨_, rfl⟩) (Or.inr ⟨_, rfl⟩) (fun t ht hW9 => ⟨⟨g, _, rfl, trivial, ⟨hf, ⟨rfl, rfl⟩⟩, (show Wd D Z N0 g ad t.heap by rw [ht]; exact hW)⟩, hS.F ht⟩) hS.2.2 dJx4a65c_elementData_915e3_6

set_option maxHeartbeats 4000000 in
set_option maxRecDepth 100000 in
theorem c_Jx4a65c_get_915e3 (l : Launch) (D : va_G) (Z : Nat → Nat) (N0 : Nat) (g : T3) (ad : T2) (L j : Nat) (hL : L < 2) (hj : j < g 3 L 2) : Met l yJx4a65c_get_915e3 wsJx4a65c_get_915e3 ({ frames := 2, cells := 0, slots := 0, locals := 140 } : Room) (PC D Z N0 g ad [.ref (ad 3 L), .int (nI (j))]) (QR D Z N0 ad (fun (r : Nat) (g1 : T3) => Fr g g1 ∧ (r = ad (10 + 3 * L) j ∧ g = g1))) 0 0 (AA N0) := by
  refine Met.ofW (cc := cJx4a65c_get_915e3) (maxL := 2) (ret := (some (.object "java/lang/Object"))) (by decide) rfl ?_
  intro p e s m args below meth c s₁ B hml hv
  obtain ⟨rfl, hW, hC⟩ := hv
  have hx := B.exec
  have hb := B.bytes
  have hr := B.returns
  have hts := atoms_spec (ws := wsJx4a65c_get_915e3) B.pre
  have hown : s.vm.findClass RJx4a65c = some m.cls := findClass_of_methodNamed B.named
  have hlocks := B.notSynchronized
  have i_Jx4a65c : ∀ w ∈ wsJx4a65c0, w ∈ wsJx4a65c_get_915e3 := (fun _ h => List.mem_cons_of_mem _ (List.mem_append_right _ h))
  have k_48 : Cond.fieldLink RJx4a65c 48 "java/util/ArrayList" "size" "I" ∈ wsJx4a65c_get_915e3 := by decide +kernel
  have M : Mx p m c cJx4a65c_get_915e3 2 s ([.ref (ad 3 L), .int (nI (j))] : List Value).toArray wsJx4a65c_get_915e3 RJx4a65c D Z N0 := ⟨⟨hx, hb, hml, hown, hts⟩, hC⟩
  have hf : Fr g g := Fr.rf g
  have hS : va_S (AA N0) s.heap s.heap [] := va_S.rf
  have hl := lv_entry ([.ref (ad 3 L), .int (nI (j))]) (n := 2) (Nat.le_of_ble_eq_true rfl)
  rw [lg_entry_eq]
  generalize (lg_sl ([.ref (ad 3 L), .int (nI (j))]) ++ List.replicate (2 - (lg_sl ([.ref (ad 3 L), .int (nI (j))])).length) Slot.unset).toArray = ls at hl ⊢
  have hl : lv_has ls 2 [(0, .ref (ad 3 L)), (1, .int (nI (j)))] := hl
  refine lv_iload_n hx hb dJx4a65c_get_915e3_0 rfl (lv_at hl 1 rfl) ?_
  refine lv_aload_n hx hb dJx4a65c_get_915e3_1 rfl (lv_at hl 0 rfl) ?_
  have b1_z : g 3 L 2 ≤ 8 := hW.2.2.1.le 3 L 2 7 rfl
  refine r_get M hW 3 L hL (v := .int (nI (g 3 L 2))) rfl rfl i_Jx4a65c 2 (by decide) k_48 (fun _ h9 => h9) rfl dJx4a65c_get_915e3_2 ?_
  refine k_ci (k_rS (As := [.int (nI (j)), .int (nI (g 3 L 2))]) (rest := []) M hW hS (c_J15_checkIndex_7cf53 l D Z N0 g ad j (g 3 L 2) hj (Nat.lt_of_le_of_lt (hW.2.2.1.le 3 L 2 7 rfl) (by decide))) (va_cwS 2 hts gJx4a65c_get_915e3_J15_checkIndex_7cf53 rfl rfl rfl (by decide +kernel) ⟨Nat.le_of_ble_eq_true rfl, Nat.le_of_ble_eq_true rfl⟩) rfl hl.1 rfl (Nat.le_of_ble_eq_true rfl) dJx4a65c_get_915e3_5 ⟨Nat.le_of_ble_eq_true rfl, Nat.le_of_ble_eq_true rfl⟩) hS (fun r3_z g2_z H locs hp hW hS => ?_)
  obtain ⟨hf1, hp⟩ := hp
  have hf : Fr g g2_z := hf.trans hf1
  obtain ⟨rfl, hg⟩ := hp
  subst hg
  refine lv_pop hx hb dJx4a65c_get_915e3_8 rfl ?_
  refine lv_aload_n hx hb dJx4a65c_get_915e3_9 rfl (lv_at hl 0 rfl) ?_
  refine lv_iload_n hx hb dJx4a65c_get_915e3_10 rfl (lv_at hl 1 rfl) ?_
  refine k_cr (k_rV (As := [.int (nI (j))]) (rest := []) M hW hS (c_Jx4a65c_elementData_915e3 l D Z N0 g ad L j hL hj) (cwV 1 hts gJx4a65c_get_915e3_Jx4a65c_elementData_915e3 rfl rfl rfl (by decide +kernel) ⟨Nat.le_of_ble_eq_true rfl, Nat.le_of_ble_eq_true rfl⟩) (r_recv M.2 hW 3 L hL rfl rfl) rfl hl.1 rfl (Nat.le_of_ble_eq_true rfl) dJx4a65c_get_915e3_11 ⟨Nat.le_of_ble_eq_true rfl, Nat.le_of_ble_eq_true rfl⟩) hS (fun r5_z g4_z H locs hp hW hS => ?_)
  obtain ⟨hf1, hp⟩ := hp
  have hf : Fr g g4_z := hf.trans hf1
  obtain ⟨hp, hg⟩ := hp
  subst hg
  have hp : r5_z = ad (10 + 3 * L) j := hp
  subst hp
  -- path 1
  exact W.aret (v := .ref (ad (10 + 3 * L) j)) hx hb hr (Or.inl ⟨_, rfl⟩) (Or.inr ⟨_, rfl⟩) (fun t ht hW9 => ⟨⟨g, _, rfl, trivial, ⟨hf, ⟨rfl, rfl⟩⟩, (show Wd D Z N0 g ad t.heap by rw [ht]; exact hW)⟩, hS.F ht⟩) hS.2.2 dJx4a65c_get_915e3_14

set_option maxHeartbeats 4000000 in
set_option maxRecDepth 100000 in
theorem c_X4_isStage (l : Launch) (D : va_G) (Z : Nat → Nat) (N0 : Nat) (g : T3) (ad : T2) (x : Int32) : Met l yX4_isStage wsX4_isStage ({ frames := 1, cells := 0, slots := 0, locals := 100 } : Room) (PC D Z N0 g ad [.ref (ad 0 0), .int (x)]) (QI D Z N0 ad (fun (r : Int32) (g1 : T3) => Fr g g1 ∧ (bP r (Ix (g 3 0 2) x) ∧ g = g1))) 0 0 (AA N0) := by
  refine Met.ofW (cc := cX4_isStage) (maxL := 2) (ret := (some .boolean)) (by decide) rfl ?_
  intro p e s m args below meth c s₁ B hml hv
  obtain ⟨rfl, hW, hC⟩ := hv
  have hx := B.exec
  have hb := B.bytes
  have hr := B.returns
  have hts := atoms_spec (ws := wsX4_isStage) B.pre
  have hown : s.vm.findClass RX4 = some m.cls := findClass_of_methodNamed B.named
  have hlocks := B.notSynchronized
  have i_X4 : ∀ w ∈ wsX40, w ∈ wsX4_isStage := (fun _ h => List.mem_cons_of_mem _ (List.mem_append_left _ (List.mem_append_right _ h)))
  have k_16 : Cond.fieldLink RX4 16 "StartChain" "stages" "Ljava/util/ArrayList;" ∈ wsX4_isStage := by decide +kernel
  have M : Mx p m c cX4_isStage 2 s ([.ref (ad 0 0), .int (x)] : List Value).toArray wsX4_isStage RX4 D Z N0 := ⟨⟨hx, hb, hml, hown, hts⟩, hC⟩
  have hf : Fr g g := Fr.rf g
  have hS : va_S (AA N0) s.heap s.heap [] := va_S.rf
  have hl := lv_entry ([.ref (ad 0 0), .int (x)]) (n := 2) (Nat.le_of_ble_eq_true rfl)
  rw [lg_entry_eq]
  generalize (lg_sl ([.ref (ad 0 0), .int (x)]) ++ List.replicate (2 - (lg_sl ([.ref (ad 0 0), .int (x)])).length) Slot.unset).toArray = ls at hl ⊢
  have hl : lv_has ls 2 [(0, .ref (ad 0 0)), (1, .int (x))] := hl
  refine lv_iload_n hx hb dX4_isStage_0 rfl (lv_at hl 1 rfl) ?_
  refine lv_iconst (v := nI 0) hx hb dX4_isStage_1 (by decide) ?_
  refine lv_aload_n hx hb dX4_isStage_2 rfl (lv_at hl 0 rfl) ?_
  refine r_get M hW 0 0 (lv0 _) (v := .ref (ad 3 0)) rfl rfl i_X4 1 (by decide) k_16 (fun _ h9 => h9) rfl dX4_isStage_3 ?_
  refine k_ci (k_rV (As := []) (rest := [.int (nI (0)), .int (x)]) M hW hS (c_Jx4a65c_size_8abf5 l D Z N0 g ad 0 (by decide)) (cwV 0 hts gX4_isStage_Jx4a65c_size_8abf5 rfl rfl rfl (by decide +kernel) ⟨Nat.le_of_ble_eq_true rfl, Nat.le_of_ble_eq_true rfl⟩) (r_recv M.2 hW 3 0 (show (0 : Nat) < 2 by decide) rfl rfl) rfl hl.1 rfl (Nat.le_of_ble_eq_true rfl) dX4_isStage_6 ⟨Nat.le_of_ble_eq_true rfl, Nat.le_of_ble_eq_true rfl⟩) hS (fun r2_z g1_z H locs hp hW hS => ?_)
  obtain ⟨hf1, hp⟩ := hp
  have hf : Fr g g1_z := hf.trans hf1
  obtain ⟨rfl, hg⟩ := hp
  subst hg
  have b3_z : g 3 0 2 ≤ 8 := hW.2.2.1.le 3 0 2 7 rfl
  refine lv_iconst (v := nI 1) hx hb dX4_isStage_9 (by decide) ?_
  refine lv_isub hx hb dX4_isStage_10 ?_
  refine k_ci (k_rS (As := [.int (x), .int (nI (0)), .int (nI (g 3 0 2) - nI (1))]) (rest := []) M hW hS (c_X4_isWithin l D Z N0 g ad (x) (nI (0)) (nI (g 3 0 2) - nI (1))) (va_cwS 3 hts gX4_isStage_X4_isWithin rfl rfl rfl (by decide +kernel) ⟨Nat.le_of_ble_eq_true rfl, Nat.le_of_ble_eq_true rfl⟩) rfl hl.1 rfl (Nat.le_of_ble_eq_true rfl) dX4_isStage_11 ⟨Nat.le_of_ble_eq_true rfl, Nat.le_of_ble_eq_true rfl⟩) hS (fun r5_z g4_z H locs hp hW hS => ?_)
  obtain ⟨hf1, hp⟩ := hp
  have hf : Fr g g4_z := hf.trans hf1
  obtain ⟨hp, hg⟩ := hp
  subst hg
  rcases hp with ⟨rfl, c6_z⟩ | ⟨rfl, c6_z⟩
  · -- path 1
    exact W.zret (v := nI (1)) (ty := .boolean) hx hb hr (nar_b (by decide)) (fun t ht hW9 => ⟨⟨nI (1), g, rfl, ⟨hf, ⟨Or.inl ⟨rfl, (ix_iff (Nat.lt_of_le_of_lt (hW.2.2.1.le 3 0 2 7 rfl) (by decide))).mp c6_z⟩, rfl⟩⟩, (show Wd D Z N0 g ad t.heap by rw [ht]; exact hW)⟩, hS.F ht⟩) hS.2.2 dX4_isStage_14
  · -- path 2
    exact W.zret (v := nI (0)) (ty := .boolean) hx hb hr (nar_b (by decide)) (fun t ht hW9 => ⟨⟨nI (0), g, rfl, ⟨hf, ⟨Or.inr ⟨rfl, fun h => c6_z ((ix_iff (Nat.lt_of_le_of_lt (hW.2.2.1.le 3 0 2 7 rfl) (by decide))).mpr h)⟩, rfl⟩⟩, (show Wd D Z N0 g ad t.heap by rw [ht]; exact hW)⟩, hS.F ht⟩) hS.2.2 dX4_isStage_14

set_option maxHeartbeats 4000000 in
set_option maxRecDepth 100000 in
theorem c_X4_stageAt (l : Launch) (hfl : l.stackTraces = false) (D : va_G) (Z : Nat → Nat) (N0 : Nat) (g : T3) (ad : T2) (x : Int32) : vx_Met l yX4_stageAt wsX4_stageAt ({ frames := 6, cells := 1, slots := 6, locals := 300 } : Room) (PC D Z N0 g ad [.ref (ad 0 0), .int (x)]) (QR D Z N0 ad (fun (r : Nat) (g1 : T3) => Fr g g1 ∧ (∃ i, i < g 3 0 2 ∧ x = nI i ∧ r = ad 10 i ∧ g = g1))) (QX D Z N0 g ad (fun E => E = "java/lang/IndexOutOfBoundsException" ∧ ¬ Ix (g 3 0 2) x)) 1 6 (AA N0) := by
  refine vx_ofW (cc := cX4_stageAt) (maxL := 2) (ret := (some (.object "StartChain$Stage"))) (by decide) rfl ?_
  intro p e s m args below meth c s₁ B hml hnt hv
  obtain ⟨rfl, hW, hC⟩ := hv
  have hx := B.exec
  have hb := B.bytes
  have hr := B.returns
  have hts := atoms_spec (ws := wsX4_stageAt) B.pre
  have hown : s.vm.findClass RX4 = some m.cls := findClass_of_methodNamed B.named
  have hlocks := B.notSynchronized
  have i_X4 : ∀ w ∈ wsX40, w ∈ wsX4_stageAt := (fun _ h => List.mem_cons_of_mem _ (List.mem_append_left _ (List.mem_append_left _ (List.mem_append_right _ h))))
  have k_16 : Cond.fieldLink RX4 16 "StartChain" "stages" "Ljava/util/ArrayList;" ∈ wsX4_stageAt := by decide +kernel
  have w_Cond_classLink_RX4_70__StartChain_Stage_ : Cond.classLink RX4 70 "StartChain$Stage" ∈ wsX4_stageAt := by decide +kernel
  have w_Cond_classLink_RX4_152__java_lang_IndexOutOfBoundsException_ : Cond.classLink RX4 152 "java/lang/IndexOutOfBoundsException" ∈ wsX4_stageAt := by decide +kernel
  have w_Cond_initialized__java_lang_IndexOutOfBoundsException_ : Cond.initialized "java/lang/IndexOutOfBoundsException" ∈ wsX4_stageAt := by decide +kernel
  have s_IOO : ∀ w ∈ (vx_atS RX4 156 "java/lang/IndexOutOfBoundsException" thN).filter goodWord, w ∈ wsX4_stageAt := (fun _ h => List.mem_cons_of_mem _ (List.mem_append_right _ h))
  have M : Mx p m c cX4_stageAt 2 s ([.ref (ad 0 0), .int (x)] : List Value).toArray wsX4_stageAt RX4 D Z N0 := ⟨⟨hx, hb, hml, hown, hts⟩, hC⟩
  have hf : Fr g g := Fr.rf g
  have hS : va_S (AA N0) s.heap s.heap [] := va_S.rf
  have hl := lv_entry ([.ref (ad 0 0), .int (x)]) (n := 2) (Nat.le_of_ble_eq_true rfl)
  rw [lg_entry_eq]
  generalize (lg_sl ([.ref (ad 0 0), .int (x)]) ++ List.replicate (2 - (lg_sl ([.ref (ad 0 0), .int (x)])).length) Slot.unset).toArray = ls at hl ⊢
  have hl : lv_has ls 2 [(0, .ref (ad 0 0)), (1, .int (x))] := hl
  refine lv_aload_n hx hb dX4_stageAt_0 rfl (lv_at hl 0 rfl) ?_
  refine lv_iload_n hx hb dX4_stageAt_1 rfl (lv_at hl 1 rfl) ?_
  refine k_ci (k_rV (As := [.int (x)]) (rest := []) M hW hS (c_X4_isStage l D Z N0 g ad (x)) (cwV 1 hts gX4_stageAt_X4_isStage rfl rfl rfl (by decide +kernel) ⟨Nat.le_of_ble_eq_true rfl, Nat.le_of_ble_eq_true rfl⟩) (r_recv M.2 hW 0 0 (lv0 _) rfl rfl) rfl hl.1 rfl (Nat.le_of_ble_eq_true rfl) dX4_stageAt_2 ⟨Nat.le_of_ble_eq_true rfl, Nat.le_of_ble_eq_true rfl⟩) hS (fun r2_z g1_z H locs hp hW hS => ?_)
  obtain ⟨hf1, hp⟩ := hp
  have hf : Fr g g1_z := hf.trans hf1
  obtain ⟨hp, hg⟩ := hp
  subst hg
  rcases hp with ⟨rfl, c3_z⟩ | ⟨rfl, c3_z⟩
  · obtain ⟨i, hi, rfl⟩ := c3_z
    have hl10 : lv g 10 i := Nat.lt_of_lt_of_le hi (hW.2.2.2 0 (by decide)).1
    refine n_if_ne (tgt := 18) hx hb (by decide) dX4_stageAt_5 (by decide) (fun _ => ?_) (fun h9 => absurd h9 (by decide))
    refine lv_aload_n hx hb dX4_stageAt_18 rfl (lv_at hl 0 rfl) ?_
    refine r_get M hW 0 0 (lv0 _) (v := .ref (ad 3 0)) rfl rfl i_X4 1 (by decide) k_16 (fun _ h9 => h9) rfl dX4_stageAt_19 ?_
    refine lv_iload_n hx hb dX4_stageAt_22 rfl (lv_at hl 1 rfl) ?_
    refine k_cr (k_rV (As := [.int (nI (i))]) (rest := []) M hW hS (c_Jx4a65c_get_915e3 l D Z N0 g ad 0 i (by decide) hi) (cwV 1 hts gX4_stageAt_Jx4a65c_get_915e3 rfl rfl rfl (by decide +kernel) ⟨Nat.le_of_ble_eq_true rfl, Nat.le_of_ble_eq_true rfl⟩) (r_recv M.2 hW 3 0 (show (0 : Nat) < 2 by decide) rfl rfl) rfl hl.1 rfl (Nat.le_of_ble_eq_true rfl) dX4_stageAt_23 ⟨Nat.le_of_ble_eq_true rfl, Nat.le_of_ble_eq_true rfl⟩) hS (fun r6_z g5_z H locs hp hW hS => ?_)
    obtain ⟨hf1, hp⟩ := hp
    have hf : Fr g g5_z := hf.trans hf1
    obtain ⟨hp, hg⟩ := hp
    subst hg
    have hp : r6_z = ad 10 i := hp
    subst hp
    refine va_castS hx hb hown (hts _ w_Cond_classLink_RX4_70__StartChain_Stage_) (hC.1.1 6 _ rfl).2 (r_recv hC hW 10 i (hf.lv hl10) rfl rfl) dX4_stageAt_26 ?_
    refine vx_ret ?_
    refine W.widen (k := 1) (n := 6) (Nat.le_of_ble_eq_true rfl) (Nat.le_of_ble_eq_true rfl) ?_
    -- path 1
    exact W.aret (v := .ref (ad 10 i)) hx hb hr (Or.inl ⟨_, rfl⟩) (Or.inr ⟨_, rfl⟩) (fun t ht hW9 => ⟨⟨g, _, rfl, trivial, ⟨hf, ⟨i, hi, rfl, rfl, rfl⟩⟩, (show Wd D Z N0 g ad t.heap by rw [ht]; exact hW)⟩, hS.F ht⟩) hS.2.2 dX4_stageAt_29
  · refine n_if_ne (tgt := 18) hx hb (by decide) dX4_stageAt_5 (by decide) (fun h9 => absurd h9 (by decide)) (fun _ => ?_)
    exact k_throw (cls := "java/lang/IndexOutOfBoundsException") (text := "no such stage") M hfl hW hS (by decide +kernel) (by decide +kernel) (by decide +kernel) g_IOO n_IOO w_Cond_classLink_RX4_152__java_lang_IndexOutOfBoundsException_ w_Cond_initialized__java_lang_IndexOutOfBoundsException_ s_IOO hl.1 hnt hlocks ⟨rfl, c3_z⟩ dX4_stageAt_8 dX4_stageAt_11 dX4_stageAt_12 dX4_stageAt_14 dX4_stageAt_17 (Nat.le_of_ble_eq_true rfl) (Nat.le_of_ble_eq_true rfl) (Nat.le_of_ble_eq_true rfl) (Nat.le_of_ble_eq_true rfl) (Nat.le_of_ble_eq_true rfl) (Nat.le_of_ble_eq_true rfl)

set_option maxHeartbeats 4000000 in
set_option maxRecDepth 100000 in
theorem c_X4_secretAt (l : Launch) (hfl : l.stackTraces = false) (D : va_G) (Z : Nat → Nat) (N0 : Nat) (g : T3) (ad : T2) (x : Int32) : vx_Met l yX4_secretAt wsX4_secretAt ({ frames := 6, cells := 1, slots := 6, locals := 300 } : Room) (PC D Z N0 g ad [.ref (ad 0 0), .int (x)]) (QR D Z N0 ad (fun (r : Nat) (g1 : T3) => Fr g g1 ∧ (∃ i, i < g 3 1 2 ∧ x = nI i ∧ r = ad 13 i ∧ g = g1))) (QX D Z N0 g ad (fun E => E = "java/lang/IndexOutOfBoundsException" ∧ ¬ Ix (g 3 1 2) x)) 1 6 (AA N0) := by
  refine vx_ofW (cc := cX4_secretAt) (maxL := 2) (ret := (some (.object "StartChain$Secret"))) (by decide) rfl ?_
  intro p e s m args below meth c s₁ B hml hnt hv
  obtain ⟨rfl, hW, hC⟩ := hv
  have hx := B.exec
  have hb := B.bytes
  have hr := B.returns
  have hts := atoms_spec (ws := wsX4_secretAt) B.pre
  have hown : s.vm.findClass RX4 = some m.cls := findClass_of_methodNamed B.named
  have hlocks := B.notSynchronized
  have i_X4 : ∀ w ∈ wsX40, w ∈ wsX4_secretAt := (fun _ h => List.mem_cons_of_mem _ (List.mem_append_left _ (List.mem_append_left _ (List.mem_append_right _ h))))
  have k_20 : Cond.fieldLink RX4 20 "StartChain" "secrets" "Ljava/util/ArrayList;" ∈ wsX4_secretAt := by decide +kernel
  have w_Cond_classLink_RX4_189__StartChain_Secret_ : Cond.classLink RX4 189 "StartChain$Secret" ∈ wsX4_secretAt := by decide +kernel
  have w_Cond_classLink_RX4_152__java_lang_IndexOutOfBoundsException_ : Cond.classLink RX4 152 "java/lang/IndexOutOfBoundsException" ∈ wsX4_secretAt := by decide +kernel
  have w_Cond_initialized__java_lang_IndexOutOfBoundsException_ : Cond.initialized "java/lang/IndexOutOfBoundsException" ∈ wsX4_secretAt := by decide +kernel
  have s_IOO : ∀ w ∈ (vx_atS RX4 156 "java/lang/IndexOutOfBoundsException" thN).filter goodWord, w ∈ wsX4_secretAt := (fun _ h => List.mem_cons_of_mem _ (List.mem_append_right _ h))
  have M : Mx p m c cX4_secretAt 2 s ([.ref (ad 0 0), .int (x)] : List Value).toArray wsX4_secretAt RX4 D Z N0 := ⟨⟨hx, hb, hml, hown, hts⟩, hC⟩
  have hf : Fr g g := Fr.rf g
  have hS : va_S (AA N0) s.heap s.heap [] := va_S.rf
  have hl := lv_entry ([.ref (ad 0 0), .int (x)]) (n := 2) (Nat.le_of_ble_eq_true rfl)
  rw [lg_entry_eq]
  generalize (lg_sl ([.ref (ad 0 0), .int (x)]) ++ List.replicate (2 - (lg_sl ([.ref (ad 0 0), .int (x)])).length) Slot.unset).toArray = ls at hl ⊢
  have hl : lv_has ls 2 [(0, .ref (ad 0 0)), (1, .int (x))] := hl
  refine lv_iload_n hx hb dX4_secretAt_0 rfl (lv_at hl 1 rfl) ?_
  refine lv_iconst (v := nI 0) hx hb dX4_secretAt_1 (by decide) ?_
  refine lv_aload_n hx hb dX4_secretAt_2 rfl (lv_at hl 0 rfl) ?_
  refine r_get M hW 0 0 (lv0 _) (v := .ref (ad 3 1)) rfl rfl i_X4 2 (by decide) k_20 (fun _ h9 => h9) rfl dX4_secretAt_3 ?_
  refine k_ci (k_rV (As := []) (rest := [.int (nI (0)), .int (x)]) M hW hS (c_Jx4a65c_size_8abf5 l D Z N0 g ad 1 (by decide)) (cwV 0 hts gX4_secretAt_Jx4a65c_size_8abf5 rfl rfl rfl (by decide +kernel) ⟨Nat.le_of_ble_eq_true rfl, Nat.le_of_ble_eq_true rfl⟩) (r_recv M.2 hW 3 1 (show (1 : Nat) < 2 by decide) rfl rfl) rfl hl.1 rfl (Nat.le_of_ble_eq_true rfl) dX4_secretAt_6 ⟨Nat.le_of_ble_eq_true rfl, Nat.le_of_ble_eq_true rfl⟩) hS (fun r2_z g1_z H locs hp hW hS => ?_)
  obtain ⟨hf1, hp⟩ := hp
  have hf : Fr g g1_z := hf.trans hf1
  obtain ⟨rfl, hg⟩ := hp
  subst hg
  have b3_z : g 3 1 2 ≤ 8 := hW.2.2.1.le 3 1 2 7 rfl
  refine lv_iconst (v := nI 1) hx hb dX4_secretAt_9 (by decide) ?_
  refine lv_isub hx hb dX4_secretAt_10 ?_
  refine k_ci (k_rS (As := [.int (x), .int (nI (0)), .int (nI (g 3 1 2) - nI (1))]) (rest := []) M hW hS (c_X4_isWithin l D Z N0 g ad (x) (nI (0)) (nI (g 3 1 2) - nI (1))) (va_cwS 3 hts gX4_secretAt_X4_isWithin rfl rfl rfl (by decide +kernel) ⟨Nat.le_of_ble_eq_true rfl, Nat.le_of_ble_eq_true rfl⟩) rfl hl.1 rfl (Nat.le_of_ble_eq_true rfl) dX4_secretAt_11 ⟨Nat.le_of_ble_eq_true rfl, Nat.le_of_ble_eq_true rfl⟩) hS (fun r5_z g4_z H locs hp hW hS => ?_)
  obtain ⟨hf1, hp⟩ := hp
  have hf : Fr g g4_z := hf.trans hf1
  obtain ⟨hp, hg⟩ := hp
  subst hg
  rcases hp with ⟨rfl, c6_z⟩ | ⟨rfl, c6_z⟩
  · have c6_z := (ix_iff (Nat.lt_of_le_of_lt (hW.2.2.1.le 3 1 2 7 rfl) (by decide))).mp c6_z
    obtain ⟨i, hi, rfl⟩ := c6_z
    have hl13 : lv g 13 i := Nat.lt_of_lt_of_le hi (hW.2.2.2 1 (by decide)).1
    refine n_if_ne (tgt := 27) hx hb (by decide) dX4_secretAt_14 (by decide) (fun _ => ?_) (fun h9 => absurd h9 (by decide))
    refine lv_aload_n hx hb dX4_secretAt_27 rfl (lv_at hl 0 rfl) ?_
    refine r_get M hW 0 0 (lv0 _) (v := .ref (ad 3 1)) rfl rfl i_X4 2 (by decide) k_20 (fun _ h9 => h9) rfl dX4_secretAt_28 ?_
    refine lv_iload_n hx hb dX4_secretAt_31 rfl (lv_at hl 1 rfl) ?_
    refine k_cr (k_rV (As := [.int (nI (i))]) (rest := []) M hW hS (c_Jx4a65c_get_915e3 l D Z N0 g ad 1 i (by decide) hi) (cwV 1 hts gX4_secretAt_Jx4a65c_get_915e3 rfl rfl rfl (by decide +kernel) ⟨Nat.le_of_ble_eq_true rfl, Nat.le_of_ble_eq_true rfl⟩) (r_recv M.2 hW 3 1 (show (1 : Nat) < 2 by decide) rfl rfl) rfl hl.1 rfl (Nat.le_of_ble_eq_true rfl) dX4_secretAt_32 ⟨Nat.le_of_ble_eq_true rfl, Nat.le_of_ble_eq_true rfl⟩) hS (fun r9_z g8_z H locs hp hW hS => ?_)
    obtain ⟨hf1, hp⟩ := hp
    have hf : Fr g g8_z := hf.trans hf1
    obtain ⟨hp, hg⟩ := hp
    subst hg
    have hp : r9_z = ad 13 i := hp
    subst hp
    refine va_castS hx hb hown (hts _ w_Cond_classLink_RX4_189__StartChain_Secret_) (hC.1.1 5 _ rfl).2 (r_recv hC hW 13 i (hf.lv hl13) rfl rfl) dX4_secretAt_35 ?_
    refine vx_ret ?_
    refine W.widen (k := 1) (n := 6) (Nat.le_of_ble_eq_true rfl) (Nat.le_of_ble_eq_true rfl) ?_
    -- path 1
    exact W.aret (v := .ref (ad 13 i)) hx hb hr (Or.inl ⟨_, rfl⟩) (Or.inr ⟨_, rfl⟩) (fun t ht hW9 => ⟨⟨g, _, rfl, trivial, ⟨hf, ⟨i, hi, rfl, rfl, rfl⟩⟩, (show Wd D Z N0 g ad t.heap by rw [ht]; exact hW)⟩, hS.F ht⟩) hS.2.2 dX4_secretAt_38
  · refine n_if_ne (tgt := 27) hx hb (by decide) dX4_secretAt_14 (by decide) (fun h9 => absurd h9 (by decide)) (fun _ => ?_)
    exact k_throw (cls := "java/lang/IndexOutOfBoundsException") (text := "no such secret") M hfl hW hS (by decide +kernel) (by decide +kernel) (by decide +kernel) g_IOO n_IOO w_Cond_classLink_RX4_152__java_lang_IndexOutOfBoundsException_ w_Cond_initialized__java_lang_IndexOutOfBoundsException_ s_IOO hl.1 hnt hlocks ⟨rfl, fun h => c6_z ((ix_iff (Nat.lt_of_le_of_lt (hW.2.2.1.le 3 1 2 7 rfl) (by decide))).mpr h)⟩ dX4_secretAt_17 dX4_secretAt_20 dX4_secretAt_21 dX4_secretAt_23 dX4_secretAt_26 (Nat.le_of_ble_eq_true rfl) (Nat.le_of_ble_eq_true rfl) (Nat.le_of_ble_eq_true rfl) (Nat.le_of_ble_eq_true rfl) (Nat.le_of_ble_eq_true rfl) (Nat.le_of_ble_eq_true rfl)
