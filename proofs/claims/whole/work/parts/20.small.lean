set_option maxHeartbeats 4000000 in
set_option maxRecDepth 100000 in
/-- whether x lies between lo and hi -/
theorem c_X4_isWithin (l : Launch) (D : va_G) (Z : Nat → Nat) (N0 : Nat) (g : T3) (ad : T2) (x lo hi : Int32) : Met l yX4_isWithin wsX4_isWithin ({ frames := 0, cells := 0, slots := 0, locals := 60 } : Room) (PC D Z N0 g ad [.int (x), .int (lo), .int (hi)]) (QI D Z N0 ad (fun (r : Int32) (g1 : T3) => Fr g g1 ∧ (bP r (lo ≤ x ∧ x ≤ hi) ∧ g = g1))) 0 0 (AA N0) := by
  refine Met.ofW (cc := cX4_isWithin) (maxL := 3) (ret := (some .boolean)) (by decide) rfl ?_
  intro p e s m args below meth c s₁ B hml hv
  obtain ⟨rfl, hW, hC⟩ := hv
  have hx := B.exec
  have hb := B.bytes
  have hr := B.returns
  have hts := atoms_spec (ws := wsX4_isWithin) B.pre
  have hown : s.vm.findClass RX4 = some m.cls := findClass_of_methodNamed B.named
  have hlocks := B.notSynchronized
  have M : Mx p m c cX4_isWithin 3 s ([.int (x), .int (lo), .int (hi)] : List Value).toArray wsX4_isWithin RX4 D Z N0 := ⟨⟨hx, hb, hml, hown, hts⟩, hC⟩
  have hf : Fr g g := Fr.rf g
  have hS : va_S (AA N0) s.heap s.heap [] := va_S.rf
  have hl := lv_entry ([.int (x), .int (lo), .int (hi)]) (n := 3) (Nat.le_of_ble_eq_true rfl)
  rw [lg_entry_eq]
  generalize (lg_sl ([.int (x), .int (lo), .int (hi)]) ++ List.replicate (3 - (lg_sl ([.int (x), .int (lo), .int (hi)])).length) Slot.unset).toArray = ls at hl ⊢
  have hl : lv_has ls 3 [(0, .int (x)), (1, .int (lo)), (2, .int (hi))] := hl
  refine lv_iload_n hx hb dX4_isWithin_0 rfl (lv_at hl 0 rfl) ?_
  refine lv_iload_n hx hb dX4_isWithin_1 rfl (lv_at hl 1 rfl) ?_
  refine lv_icmp_lt (tgt := 14) hx hb dX4_isWithin_2 (by decide) (fun c1_z => ?_) (fun c1_z => ?_)
  · refine lv_iconst (v := nI 0) hx hb dX4_isWithin_14 (by decide) ?_
    -- path 1
    exact W.zret (v := nI (0)) (ty := .boolean) hx hb hr (nar_b (by decide)) (fun t ht hW9 => ⟨⟨nI (0), g, rfl, ⟨hf, ⟨Or.inr ⟨rfl, fun h => absurd h.1 (Int32.not_le.mpr c1_z)⟩, rfl⟩⟩, (show Wd D Z N0 g ad t.heap by rw [ht]; exact hW)⟩, hS.F ht⟩) hS.2.2 dX4_isWithin_15
  · refine lv_iload_n hx hb dX4_isWithin_5 rfl (lv_at hl 0 rfl) ?_
    refine lv_iload_n hx hb dX4_isWithin_6 rfl (lv_at hl 2 rfl) ?_
    refine lv_icmp_gt (tgt := 14) hx hb dX4_isWithin_7 (by decide) (fun c2_z => ?_) (fun c2_z => ?_)
    · refine lv_iconst (v := nI 0) hx hb dX4_isWithin_14 (by decide) ?_
      -- path 2
      exact W.zret (v := nI (0)) (ty := .boolean) hx hb hr (nar_b (by decide)) (fun t ht hW9 => ⟨⟨nI (0), g, rfl, ⟨hf, ⟨Or.inr ⟨rfl, fun h => absurd h.2 (Int32.not_le.mpr c2_z)⟩, rfl⟩⟩, (show Wd D Z N0 g ad t.heap by rw [ht]; exact hW)⟩, hS.F ht⟩) hS.2.2 dX4_isWithin_15
    · refine lv_iconst (v := nI 1) hx hb dX4_isWithin_10 (by decide) ?_
      refine lv_goto (tgt := 15) hx hb dX4_isWithin_11 (by decide) ?_
      -- path 3
      exact W.zret (v := nI (1)) (ty := .boolean) hx hb hr (nar_b (by decide)) (fun t ht hW9 => ⟨⟨nI (1), g, rfl, ⟨hf, ⟨Or.inl ⟨rfl, Int32.not_lt.mp c1_z, Int32.not_lt.mp c2_z⟩, rfl⟩⟩, (show Wd D Z N0 g ad t.heap by rw [ht]; exact hW)⟩, hS.F ht⟩) hS.2.2 dX4_isWithin_15

set_option maxHeartbeats 4000000 in
set_option maxRecDepth 100000 in
theorem c_X4_isRegister (l : Launch) (D : va_G) (Z : Nat → Nat) (N0 : Nat) (g : T3) (ad : T2) (x : Int32) : Met l yX4_isRegister wsX4_isRegister ({ frames := 1, cells := 0, slots := 0, locals := 100 } : Room) (PC D Z N0 g ad [.int (x)]) (QI D Z N0 ad (fun (r : Int32) (g1 : T3) => Fr g g1 ∧ (bP r (Ix 3 x) ∧ g = g1))) 0 0 (AA N0) := by
  refine Met.ofW (cc := cX4_isRegister) (maxL := 1) (ret := (some .boolean)) (by decide) rfl ?_
  intro p e s m args below meth c s₁ B hml hv
  obtain ⟨rfl, hW, hC⟩ := hv
  have hx := B.exec
  have hb := B.bytes
  have hr := B.returns
  have hts := atoms_spec (ws := wsX4_isRegister) B.pre
  have hown : s.vm.findClass RX4 = some m.cls := findClass_of_methodNamed B.named
  have hlocks := B.notSynchronized
  have M : Mx p m c cX4_isRegister 1 s ([.int (x)] : List Value).toArray wsX4_isRegister RX4 D Z N0 := ⟨⟨hx, hb, hml, hown, hts⟩, hC⟩
  have hf : Fr g g := Fr.rf g
  have hS : va_S (AA N0) s.heap s.heap [] := va_S.rf
  have hl := lv_entry ([.int (x)]) (n := 1) (Nat.le_of_ble_eq_true rfl)
  rw [lg_entry_eq]
  generalize (lg_sl ([.int (x)]) ++ List.replicate (1 - (lg_sl ([.int (x)])).length) Slot.unset).toArray = ls at hl ⊢
  have hl : lv_has ls 1 [(0, .int (x))] := hl
  refine lv_iload_n hx hb dX4_isRegister_0 rfl (lv_at hl 0 rfl) ?_
  refine lv_iconst (v := nI 0) hx hb dX4_isRegister_1 (by decide) ?_
  refine lv_iconst (v := nI 2) hx hb dX4_isRegister_2 (by decide) ?_
  refine k_ci (k_rS (As := [.int (x), .int (nI (0)), .int (nI (2))]) (rest := []) M hW hS (c_X4_isWithin l D Z N0 g ad (x) (nI (0)) (nI (2))) (va_cwS 3 hts gX4_isRegister_X4_isWithin rfl rfl rfl (by decide +kernel) ⟨Nat.le_of_ble_eq_true rfl, Nat.le_of_ble_eq_true rfl⟩) rfl hl.1 rfl (Nat.le_of_ble_eq_true rfl) dX4_isRegister_3 ⟨Nat.le_of_ble_eq_true rfl, Nat.le_of_ble_eq_true rfl⟩) hS (fun r2_z g1_z H locs hp hW hS => ?_)
  obtain ⟨hf1, hp⟩ := hp
  have hf : Fr g g1_z := hf.trans hf1
  obtain ⟨hp, hg⟩ := hp
  subst hg
  rcases hp with ⟨rfl, c3_z⟩ | ⟨rfl, c3_z⟩
  · -- path 1
    exact W.zret (v := nI (1)) (ty := .boolean) hx hb hr (nar_b (by decide)) (fun t ht hW9 => ⟨⟨nI (1), g, rfl, ⟨hf, ⟨Or.inl ⟨rfl, (ix0_iff (n := 2) (by decide)).mp c3_z⟩, rfl⟩⟩, (show Wd D Z N0 g ad t.heap by rw [ht]; exact hW)⟩, hS.F ht⟩) hS.2.2 dX4_isRegister_6
  · -- path 2
    exact W.zret (v := nI (0)) (ty := .boolean) hx hb hr (nar_b (by decide)) (fun t ht hW9 => ⟨⟨nI (0), g, rfl, ⟨hf, ⟨Or.inr ⟨rfl, fun h => c3_z ((ix0_iff (n := 2) (by decide)).mpr h)⟩, rfl⟩⟩, (show Wd D Z N0 g ad t.heap by rw [ht]; exact hW)⟩, hS.F ht⟩) hS.2.2 dX4_isRegister_6

set_option maxHeartbeats 4000000 in
set_option maxRecDepth 100000 in
/-- whether x lies between lo and hi -/
theorem c_X5_in (l : Launch) (D : va_G) (Z : Nat → Nat) (N0 : Nat) (g : T3) (ad : T2) (x lo hi : Int32) : Met l yX5_in wsX5_in ({ frames := 0, cells := 0, slots := 0, locals := 60 } : Room) (PC D Z N0 g ad [.int (x), .int (lo), .int (hi)]) (QI D Z N0 ad (fun (r : Int32) (g1 : T3) => Fr g g1 ∧ (bP r (lo ≤ x ∧ x ≤ hi) ∧ g = g1))) 0 0 (AA N0) := by
  refine Met.ofW (cc := cX5_in) (maxL := 3) (ret := (some .boolean)) (by decide) rfl ?_
  intro p e s m args below meth c s₁ B hml hv
  obtain ⟨rfl, hW, hC⟩ := hv
  have hx := B.exec
  have hb := B.bytes
  have hr := B.returns
  have hts := atoms_spec (ws := wsX5_in) B.pre
  have hown : s.vm.findClass RX5 = some m.cls := findClass_of_methodNamed B.named
  have hlocks := B.notSynchronized
  have M : Mx p m c cX5_in 3 s ([.int (x), .int (lo), .int (hi)] : List Value).toArray wsX5_in RX5 D Z N0 := ⟨⟨hx, hb, hml, hown, hts⟩, hC⟩
  have hf : Fr g g := Fr.rf g
  have hS : va_S (AA N0) s.heap s.heap [] := va_S.rf
  have hl := lv_entry ([.int (x), .int (lo), .int (hi)]) (n := 3) (Nat.le_of_ble_eq_true rfl)
  rw [lg_entry_eq]
  generalize (lg_sl ([.int (x), .int (lo), .int (hi)]) ++ List.replicate (3 - (lg_sl ([.int (x), .int (lo), .int (hi)])).length) Slot.unset).toArray = ls at hl ⊢
  have hl : lv_has ls 3 [(0, .int (x)), (1, .int (lo)), (2, .int (hi))] := hl
  refine lv_iload_n hx hb dX5_in_0 rfl (lv_at hl 0 rfl) ?_
  refine lv_iload_n hx hb dX5_in_1 rfl (lv_at hl 1 rfl) ?_
  refine lv_icmp_lt (tgt := 14) hx hb dX5_in_2 (by decide) (fun c1_z => ?_) (fun c1_z => ?_)
  · refine lv_iconst (v := nI 0) hx hb dX5_in_14 (by decide) ?_
    -- path 1
    exact W.zret (v := nI (0)) (ty := .boolean) hx hb hr (nar_b (by decide)) (fun t ht hW9 => ⟨⟨nI (0), g, rfl, ⟨hf, ⟨Or.inr ⟨rfl, fun h => absurd h.1 (Int32.not_le.mpr c1_z)⟩, rfl⟩⟩, (show Wd D Z N0 g ad t.heap by rw [ht]; exact hW)⟩, hS.F ht⟩) hS.2.2 dX5_in_15
  · refine lv_iload_n hx hb dX5_in_5 rfl (lv_at hl 0 rfl) ?_
    refine lv_iload_n hx hb dX5_in_6 rfl (lv_at hl 2 rfl) ?_
    refine lv_icmp_gt (tgt := 14) hx hb dX5_in_7 (by decide) (fun c2_z => ?_) (fun c2_z => ?_)
    · refine lv_iconst (v := nI 0) hx hb dX5_in_14 (by decide) ?_
      -- path 2
      exact W.zret (v := nI (0)) (ty := .boolean) hx hb hr (nar_b (by decide)) (fun t ht hW9 => ⟨⟨nI (0), g, rfl, ⟨hf, ⟨Or.inr ⟨rfl, fun h => absurd h.2 (Int32.not_le.mpr c2_z)⟩, rfl⟩⟩, (show Wd D Z N0 g ad t.heap by rw [ht]; exact hW)⟩, hS.F ht⟩) hS.2.2 dX5_in_15
    · refine lv_iconst (v := nI 1) hx hb dX5_in_10 (by decide) ?_
      refine lv_goto (tgt := 15) hx hb dX5_in_11 (by decide) ?_
      -- path 3
      exact W.zret (v := nI (1)) (ty := .boolean) hx hb hr (nar_b (by decide)) (fun t ht hW9 => ⟨⟨nI (1), g, rfl, ⟨hf, ⟨Or.inl ⟨rfl, Int32.not_lt.mp c1_z, Int32.not_lt.mp c2_z⟩, rfl⟩⟩, (show Wd D Z N0 g ad t.heap by rw [ht]; exact hW)⟩, hS.F ht⟩) hS.2.2 dX5_in_15

set_option maxHeartbeats 4000000 in
set_option maxRecDepth 100000 in
theorem c_X5_isRegister (l : Launch) (D : va_G) (Z : Nat → Nat) (N0 : Nat) (g : T3) (ad : T2) (x : Int32) : Met l yX5_isRegister wsX5_isRegister ({ frames := 1, cells := 0, slots := 0, locals := 100 } : Room) (PC D Z N0 g ad [.int (x)]) (QI D Z N0 ad (fun (r : Int32) (g1 : T3) => Fr g g1 ∧ (bP r (Ix 3 x) ∧ g = g1))) 0 0 (AA N0) := by
  refine Met.ofW (cc := cX5_isRegister) (maxL := 1) (ret := (some .boolean)) (by decide) rfl ?_
  intro p e s m args below meth c s₁ B hml hv
  obtain ⟨rfl, hW, hC⟩ := hv
  have hx := B.exec
  have hb := B.bytes
  have hr := B.returns
  have hts := atoms_spec (ws := wsX5_isRegister) B.pre
  have hown : s.vm.findClass RX5 = some m.cls := findClass_of_methodNamed B.named
  have hlocks := B.notSynchronized
  have M : Mx p m c cX5_isRegister 1 s ([.int (x)] : List Value).toArray wsX5_isRegister RX5 D Z N0 := ⟨⟨hx, hb, hml, hown, hts⟩, hC⟩
  have hf : Fr g g := Fr.rf g
  have hS : va_S (AA N0) s.heap s.heap [] := va_S.rf
  have hl := lv_entry ([.int (x)]) (n := 1) (Nat.le_of_ble_eq_true rfl)
  rw [lg_entry_eq]
  generalize (lg_sl ([.int (x)]) ++ List.replicate (1 - (lg_sl ([.int (x)])).length) Slot.unset).toArray = ls at hl ⊢
  have hl : lv_has ls 1 [(0, .int (x))] := hl
  refine lv_iload_n hx hb dX5_isRegister_0 rfl (lv_at hl 0 rfl) ?_
  refine lv_iconst (v := nI 0) hx hb dX5_isRegister_1 (by decide) ?_
  refine lv_iconst (v := nI 2) hx hb dX5_isRegister_2 (by decide) ?_
  refine k_ci (k_rS (As := [.int (x), .int (nI (0)), .int (nI (2))]) (rest := []) M hW hS (c_X5_in l D Z N0 g ad (x) (nI (0)) (nI (2))) (va_cwS 3 hts gX5_isRegister_X5_in rfl rfl rfl (by decide +kernel) ⟨Nat.le_of_ble_eq_true rfl, Nat.le_of_ble_eq_true rfl⟩) rfl hl.1 rfl (Nat.le_of_ble_eq_true rfl) dX5_isRegister_3 ⟨Nat.le_of_ble_eq_true rfl, Nat.le_of_ble_eq_true rfl⟩) hS (fun r2_z g1_z H locs hp hW hS => ?_)
  obtain ⟨hf1, hp⟩ := hp
  have hf : Fr g g1_z := hf.trans hf1
  obtain ⟨hp, hg⟩ := hp
  subst hg
  rcases hp with ⟨rfl, c3_z⟩ | ⟨rfl, c3_z⟩
  · -- path 1
    exact W.zret (v := nI (1)) (ty := .boolean) hx hb hr (nar_b (by decide)) (fun t ht hW9 => ⟨⟨nI (1), g, rfl, ⟨hf, ⟨Or.inl ⟨rfl, (ix0_iff (n := 2) (by decide)).mp c3_z⟩, rfl⟩⟩, (show Wd D Z N0 g ad t.heap by rw [ht]; exact hW)⟩, hS.F ht⟩) hS.2.2 dX5_isRegister_6
  · -- path 2
    exact W.zret (v := nI (0)) (ty := .boolean) hx hb hr (nar_b (by decide)) (fun t ht hW9 => ⟨⟨nI (0), g, rfl, ⟨hf, ⟨Or.inr ⟨rfl, fun h => c3_z ((ix0_iff (n := 2) (by decide)).mpr h)⟩, rfl⟩⟩, (show Wd D Z N0 g ad t.heap by rw [ht]; exact hW)⟩, hS.F ht⟩) hS.2.2 dX5_isRegister_6

set_option maxHeartbeats 4000000 in
set_option maxRecDepth 100000 in
theorem c_Jx4a65c_size_8abf5 (l : Launch) (D : va_G) (Z : Nat → Nat) (N0 : Nat) (g : T3) (ad : T2) (L : Nat) (hL : L < 2) : Met l yJx4a65c_size_8abf5 wsJx4a65c_size_8abf5 ({ frames := 0, cells := 0, slots := 0, locals := 60 } : Room) (PC D Z N0 g ad [.ref (ad 3 L)]) (QI D Z N0 ad (fun (r : Int32) (g1 : T3) => Fr g g1 ∧ (r = nI (g 3 L 2) ∧ g = g1))) 0 0 (AA N0) := by
  refine Met.ofW (cc := cJx4a65c_size_8abf5) (maxL := 1) (ret := (some .int)) (by decide) rfl ?_
  intro p e s m args below meth c s₁ B hml hv
  obtain ⟨rfl, hW, hC⟩ := hv
  have hx := B.exec
  have hb := B.bytes
  have hr := B.returns
  have hts := atoms_spec (ws := wsJx4a65c_size_8abf5) B.pre
  have hown : s.vm.findClass RJx4a65c = some m.cls := findClass_of_methodNamed B.named
  have hlocks := B.notSynchronized
  have i_Jx4a65c : ∀ w ∈ wsJx4a65c0, w ∈ wsJx4a65c_size_8abf5 := (fun _ h => List.mem_cons_of_mem _ (List.mem_append_right _ h))
  have k_48 : Cond.fieldLink RJx4a65c 48 "java/util/ArrayList" "size" "I" ∈ wsJx4a65c_size_8abf5 := by decide +kernel
  have M : Mx p m c cJx4a65c_size_8abf5 1 s ([.ref (ad 3 L)] : List Value).toArray wsJx4a65c_size_8abf5 RJx4a65c D Z N0 := ⟨⟨hx, hb, hml, hown, hts⟩, hC⟩
  have hf : Fr g g := Fr.rf g
  have hS : va_S (AA N0) s.heap s.heap [] := va_S.rf
  have hl := lv_entry ([.ref (ad 3 L)]) (n := 1) (Nat.le_of_ble_eq_true rfl)
  rw [lg_entry_eq]
  generalize (lg_sl ([.ref (ad 3 L)]) ++ List.replicate (1 - (lg_sl ([.ref (ad 3 L)])).length) Slot.unset).toArray = ls at hl ⊢
  have hl : lv_has ls 1 [(0, .ref (ad 3 L))] := hl
  refine lv_aload_n hx hb dJx4a65c_size_8abf5_0 rfl (lv_at hl 0 rfl) ?_
  have b1_z : g 3 L 2 ≤ 8 := hW.2.2.1.le 3 L 2 7 rfl
  refine r_get M hW 3 L hL (v := .int (nI (g 3 L 2))) rfl rfl i_Jx4a65c 2 (by decide) k_48 (fun _ h9 => h9) rfl dJx4a65c_size_8abf5_1 ?_
  -- path 1
  exact W.iret (v := nI (g 3 L 2)) hx hb hr (fun t ht hW9 => ⟨⟨nI (g 3 L 2), g, rfl, ⟨hf, ⟨rfl, rfl⟩⟩, (show Wd D Z N0 g ad t.heap by rw [ht]; exact hW)⟩, hS.F ht⟩) hS.2.2 dJx4a65c_size_8abf5_4

set_option maxHeartbeats 4000000 in
set_option maxRecDepth 100000 in
theorem c_Jx4a65c_isEmpty_aae02 (l : Launch) (D : va_G) (Z : Nat → Nat) (N0 : Nat) (g : T3) (ad : T2) (L : Nat) (hL : L < 2) : Met l yJx4a65c_isEmpty_aae02 wsJx4a65c_isEmpty_aae02 ({ frames := 0, cells := 0, slots := 0, locals := 60 } : Room) (PC D Z N0 g ad [.ref (ad 3 L)]) (QI D Z N0 ad (fun (r : Int32) (g1 : T3) => Fr g g1 ∧ (bP r (g 3 L 2 = 0) ∧ g = g1))) 0 0 (AA N0) := by
  refine Met.ofW (cc := cJx4a65c_isEmpty_aae02) (maxL := 1) (ret := (some .boolean)) (by decide) rfl ?_
  intro p e s m args below meth c s₁ B hml hv
  obtain ⟨rfl, hW, hC⟩ := hv
  have hx := B.exec
  have hb := B.bytes
  have hr := B.returns
  have hts := atoms_spec (ws := wsJx4a65c_isEmpty_aae02) B.pre
  have hown : s.vm.findClass RJx4a65c = some m.cls := findClass_of_methodNamed B.named
  have hlocks := B.notSynchronized
  have i_Jx4a65c : ∀ w ∈ wsJx4a65c0, w ∈ wsJx4a65c_isEmpty_aae02 := (fun _ h => List.mem_cons_of_mem _ (List.mem_append_right _ h))
  have k_48 : Cond.fieldLink RJx4a65c 48 "java/util/ArrayList" "size" "I" ∈ wsJx4a65c_isEmpty_aae02 := by decide +kernel
  have M : Mx p m c cJx4a65c_isEmpty_aae02 1 s ([.ref (ad 3 L)] : List Value).toArray wsJx4a65c_isEmpty_aae02 RJx4a65c D Z N0 := ⟨⟨hx, hb, hml, hown, hts⟩, hC⟩
  have hf : Fr g g := Fr.rf g
  have hS : va_S (AA N0) s.heap s.heap [] := va_S.rf
  have hl := lv_entry ([.ref (ad 3 L)]) (n := 1) (Nat.le_of_ble_eq_true rfl)
  rw [lg_entry_eq]
  generalize (lg_sl ([.ref (ad 3 L)]) ++ List.replicate (1 - (lg_sl ([.ref (ad 3 L)])).length) Slot.unset).toArray = ls at hl ⊢
  have hl : lv_has ls 1 [(0, .ref (ad 3 L))] := hl
  refine lv_aload_n hx hb dJx4a65c_isEmpty_aae02_0 rfl (lv_at hl 0 rfl) ?_
  have b1_z : g 3 L 2 ≤ 8 := hW.2.2.1.le 3 L 2 7 rfl
  refine r_get M hW 3 L hL (v := .int (nI (g 3 L 2))) rfl rfl i_Jx4a65c 2 (by decide) k_48 (fun _ h9 => h9) rfl dJx4a65c_isEmpty_aae02_1 ?_
  refine n_if_ne (tgt := 11) hx hb (Nat.lt_of_le_of_lt b1_z (by decide)) dJx4a65c_isEmpty_aae02_4 (by decide) (fun c2_z => ?_) (fun c2_z => ?_)
  · refine lv_iconst (v := nI 0) hx hb dJx4a65c_isEmpty_aae02_11 (by decide) ?_
    -- path 1
    exact W.zret (v := nI (0)) (ty := .boolean) hx hb hr (nar_b (by decide)) (fun t ht hW9 => ⟨⟨nI (0), g, rfl, ⟨hf, ⟨Or.inr ⟨rfl, c2_z⟩, rfl⟩⟩, (show Wd D Z N0 g ad t.heap by rw [ht]; exact hW)⟩, hS.F ht⟩) hS.2.2 dJx4a65c_isEmpty_aae02_12
  · refine lv_iconst (v := nI 1) hx hb dJx4a65c_isEmpty_aae02_7 (by decide) ?_
    refine lv_goto (tgt := 12) hx hb dJx4a65c_isEmpty_aae02_8 (by decide) ?_
    -- path 2
    exact W.zret (v := nI (1)) (ty := .boolean) hx hb hr (nar_b (by decide)) (fun t ht hW9 => ⟨⟨nI (1), g, rfl, ⟨hf, ⟨Or.inl ⟨rfl, c2_z⟩, rfl⟩⟩, (show Wd D Z N0 g ad t.heap by rw [ht]; exact hW)⟩, hS.F ht⟩) hS.2.2 dJx4a65c_isEmpty_aae02_12
