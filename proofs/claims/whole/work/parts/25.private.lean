set_option maxHeartbeats 4000000 in
set_option maxRecDepth 100000 in
theorem c_X2_isSealedTo (l : Launch) (D : va_G) (Z : Nat → Nat) (N0 : Nat) (g : T3) (ad : T2) (j q : Nat) (hl13 : lv g 13 j) (hq3 : q < 3) : Met l yX2_isSealedTo wsX2_isSealedTo ({ frames := 0, cells := 0, slots := 0, locals := 60 } : Room) (PC D Z N0 g ad [.ref (ad 13 j), .int (nI (q))]) (QI D Z N0 ad (fun (r : Int32) (g1 : T3) => Fr g g1 ∧ (bP r (bit (g 13 j 0) q = 1) ∧ g = g1))) 0 0 (AA N0) := by
  refine Met.ofW (cc := cX2_isSealedTo) (maxL := 2) (ret := (some .boolean)) (by decide) rfl ?_
  intro pP eP sP mP args below meth cP s₁ B hmlP hvP
  obtain ⟨rfl, hW, hC⟩ := hvP
  have hx := B.exec
  have hb := B.bytes
  have hr := B.returns
  have hts := atoms_spec (ws := wsX2_isSealedTo) B.pre
  have hown : sP.vm.findClass RX2 = some mP.cls := findClass_of_methodNamed B.named
  have hlocks := B.notSynchronized
  have i_X2 : ∀ w ∈ wsX20, w ∈ wsX2_isSealedTo := (fun _ h => List.mem_cons_of_mem _ (List.mem_append_right _ h))
  have k_9 : Cond.fieldLink RX2 9 "StartChain$Secret" "registers" "I" ∈ wsX2_isSealedTo := by decide +kernel
  have M : Mx pP mP cP cX2_isSealedTo 2 sP ([.ref (ad 13 j), .int (nI (q))] : List Value).toArray wsX2_isSealedTo RX2 D Z N0 := ⟨⟨hx, hb, hmlP, hown, hts⟩, hC⟩
  have hf : Fr g g := Fr.rf g
  have hS : va_S (AA N0) sP.heap sP.heap [] := va_S.rf
  have hl := lv_entry ([.ref (ad 13 j), .int (nI (q))]) (n := 2) (Nat.le_of_ble_eq_true rfl)
  rw [lg_entry_eq]
  generalize (lg_sl ([.ref (ad 13 j), .int (nI (q))]) ++ List.replicate (2 - (lg_sl ([.ref (ad 13 j), .int (nI (q))])).length) Slot.unset).toArray = ls at hl ⊢
  have hl : lv_has ls 2 [(0, .ref (ad 13 j)), (1, .int (nI (q)))] := hl
  refine lv_aload_n hx hb dX2_isSealedTo_0 rfl (lv_at hl 0 rfl) ?_
  have b1_z : g 13 j 0 ≤ 7 := hW.2.2.1.le 13 j 0 6 rfl
  refine r_get M hW 13 j (hf.lv hl13) (v := .int (nI (g 13 j 0))) rfl rfl i_X2 0 (by decide) k_9 (fun _ h9 => h9) rfl dX2_isSealedTo_1 ?_
  refine lv_iload_n hx hb dX2_isSealedTo_4 rfl (lv_at hl 1 rfl) ?_
  refine n_ishr hx hb (Nat.lt_of_le_of_lt b1_z (by decide)) (sh3 hq3) dX2_isSealedTo_5 ?_
  refine lv_iconst (v := nI 1) hx hb dX2_isSealedTo_6 (by decide) ?_
  refine n_iand1 hx hb (Nat.lt_of_le_of_lt (Nat.div_le_self _ _) (Nat.lt_of_le_of_lt b1_z (by decide))) dX2_isSealedTo_7 ?_
  refine lv_iconst (v := nI 1) hx hb dX2_isSealedTo_8 (by decide) ?_
  refine n_icmp_ne (tgt := 16) hx hb (by omega) (by decide) dX2_isSealedTo_9 (by decide) (fun c2_z => ?_) (fun c2_z => ?_)
  · refine lv_iconst (v := nI 0) hx hb dX2_isSealedTo_16 (by decide) ?_
    -- path 1
    exact W.zret (v := nI (0)) (ty := .boolean) hx hb hr (nar_b (show 0 ≤ 1 by decide)) (fun t ht hW9 => ⟨⟨nI (0), g, rfl, ⟨hf, ⟨Or.inr ⟨rfl, c2_z⟩, rfl⟩⟩, (show Wd D Z N0 g ad t.heap by rw [ht]; exact hW)⟩, hS.F ht⟩) hS.2.2 dX2_isSealedTo_17
  · refine lv_iconst (v := nI 1) hx hb dX2_isSealedTo_12 (by decide) ?_
    refine lv_goto (tgt := 17) hx hb dX2_isSealedTo_13 (by decide) ?_
    -- path 2
    exact W.zret (v := nI (1)) (ty := .boolean) hx hb hr (nar_b (show 1 ≤ 1 by decide)) (fun t ht hW9 => ⟨⟨nI (1), g, rfl, ⟨hf, ⟨Or.inl ⟨rfl, c2_z⟩, rfl⟩⟩, (show Wd D Z N0 g ad t.heap by rw [ht]; exact hW)⟩, hS.F ht⟩) hS.2.2 dX2_isSealedTo_17

set_option maxHeartbeats 4000000 in
set_option maxRecDepth 100000 in
theorem c_X2_countOther (l : Launch) (D : va_G) (Z : Nat → Nat) (N0 : Nat) (g : T3) (ad : T2) (j u : Nat) (hl13 : lv g 13 j) (hu2 : u < 2) : Met l yX2_countOther wsX2_countOther ({ frames := 1, cells := 0, slots := 0, locals := 100 } : Room) (PC D Z N0 g ad [.ref (ad 13 j), .ref (ad 6 u)]) (QI D Z N0 ad (fun (r : Int32) (g1 : T3) => Fr g g1 ∧ (r = nI (oth g j u) ∧ g = g1))) 0 0 (AA N0) := by
  refine Met.ofW (cc := cX2_countOther) (maxL := 4) (ret := (some .int)) (by decide) rfl ?_
  intro pP eP sP mP args below meth cP s₁ B hmlP hvP
  obtain ⟨rfl, hW, hC⟩ := hvP
  have hx := B.exec
  have hb := B.bytes
  have hr := B.returns
  have hts := atoms_spec (ws := wsX2_countOther) B.pre
  have hown : sP.vm.findClass RX2 = some mP.cls := findClass_of_methodNamed B.named
  have hlocks := B.notSynchronized
  have i_X2 : ∀ w ∈ wsX20, w ∈ wsX2_countOther := (fun _ h => List.mem_cons_of_mem _ (List.mem_append_left _ (List.mem_append_right _ h)))
  have k_18 : Cond.fieldLink RX2 18 "StartChain$Secret" "values" "[I" ∈ wsX2_countOther := by decide +kernel
  have M : Mx pP mP cP cX2_countOther 4 sP ([.ref (ad 13 j), .ref (ad 6 u)] : List Value).toArray wsX2_countOther RX2 D Z N0 := ⟨⟨hx, hb, hmlP, hown, hts⟩, hC⟩
  have hf : Fr g g := Fr.rf g
  have hS : va_S (AA N0) sP.heap sP.heap [] := va_S.rf
  have hl := lv_entry ([.ref (ad 13 j), .ref (ad 6 u)]) (n := 4) (Nat.le_of_ble_eq_true rfl)
  rw [lg_entry_eq]
  generalize (lg_sl ([.ref (ad 13 j), .ref (ad 6 u)]) ++ List.replicate (4 - (lg_sl ([.ref (ad 13 j), .ref (ad 6 u)])).length) Slot.unset).toArray = ls at hl ⊢
  have hl : lv_has ls 4 [(0, .ref (ad 13 j)), (1, .ref (ad 6 u))] := hl
  refine lv_iconst (v := nI 0) hx hb dX2_countOther_0 (by decide) ?_
  refine lv_istore_n (lv' := [(2, .int (nI (0))), (0, .ref (ad 13 j)), (1, .ref (ad 6 u))]) hx hb dX2_countOther_1 rfl hl (by decide) rfl (fun ls hl => ?_)
  refine lv_iconst (v := nI 0) hx hb dX2_countOther_2 (by decide) ?_
  refine lv_istore_n (lv' := [(3, .int (nI (0))), (2, .int (nI (0))), (0, .ref (ad 13 j)), (1, .ref (ad 6 u))]) hx hb dX2_countOther_3 rfl hl (by decide) rfl (fun ls hl => ?_)
  refine k_loop (D := D) (Z := Z) (N0 := N0) (ad := ad) (g0 := g) (σ := Nat) (a0 := 0) (3) 4 (0) (fun k gk a => g = gk ∧ (a = sumN (fun q => if bit (g 13 j 0) q = 1 ∧ ¬ g 14 j q = g 6 u q then 1 else 0) k)) (fun k a => [(3, .int (nI (k))), (2, .int (nI (a))), (0, .ref (ad 13 j)), (1, .ref (ad 6 u))]) (by decide) ⟨rfl, rfl⟩ hW hS (lv_sub hl [0, 1, 2, 3] rfl) (fun n k gk a H locs ls hkn hI hW hS hl ih => ?_)
  obtain ⟨hg, hI⟩ := hI
  subst hg
  refine lv_iload_n hx hb dX2_countOther_4 rfl (lv_at hl 0 rfl) ?_
  refine lv_iconst (v := nI 3) hx hb dX2_countOther_5 (by decide) ?_
  refine n_icmp_ge (tgt := 38) hx hb (by omega) (by decide) dX2_countOther_6 (by decide) (fun c1_z => ?_) (fun c1_z => ?_)
  · refine lv_iload_n hx hb dX2_countOther_38 rfl (lv_at hl 1 rfl) ?_
    -- path 1
    exact W.iret (v := nI (a)) hx hb hr (fun t ht hW9 => ⟨⟨nI (a), g, rfl, ⟨hf, ⟨congrArg nI (by rw [hI, show k = 3 by omega]; rfl), rfl⟩⟩, (show Wd D Z N0 g ad t.heap by rw [ht]; exact hW)⟩, hS.F ht⟩) hS.2.2 dX2_countOther_39
  · refine lv_aload_n hx hb dX2_countOther_9 rfl (lv_at hl 2 rfl) ?_
    refine lv_iload_n hx hb dX2_countOther_10 rfl (lv_at hl 0 rfl) ?_
    refine k_ci (k_rV (As := [.int (nI (k))]) (rest := []) M hW hS (c_X2_isSealedTo l D Z N0 g ad j k (hf.lv hl13) (show k < 3 by omega)) (cwV 1 hts gX2_countOther_X2_isSealedTo rfl rfl rfl (by decide +kernel) ⟨Nat.le_of_ble_eq_true rfl, Nat.le_of_ble_eq_true rfl⟩) (r_recv M.2 hW 13 j (hf.lv hl13) rfl rfl) rfl hl.1 rfl (Nat.le_of_ble_eq_true rfl) dX2_countOther_11 ⟨Nat.le_of_ble_eq_true rfl, Nat.le_of_ble_eq_true rfl⟩) hS (fun r3_z g2_z H locs hp hW hS => ?_)
    obtain ⟨hf1, hp⟩ := hp
    have hf : Fr g g2_z := hf.trans hf1
    obtain ⟨hp, hg⟩ := hp
    subst hg
    rcases hp with ⟨rfl, c4_z⟩ | ⟨rfl, c4_z⟩
    · refine n_if_eq (tgt := 32) hx hb (by decide) dX2_countOther_14 (by decide) (fun h9 => absurd h9 (by decide)) (fun _ => ?_)
      refine lv_aload_n hx hb dX2_countOther_17 rfl (lv_at hl 2 rfl) ?_
      refine r_get M hW 13 j (hf.lv hl13) (v := .ref (ad 14 j)) rfl rfl i_X2 2 (by decide) k_18 (fun _ h9 => h9) rfl dX2_countOther_18 ?_
      refine lv_iload_n hx hb dX2_countOther_21 rfl (lv_at hl 0 rfl) ?_
      refine r_iald M hW 14 j (hf.lv hl13) (n := 3) rfl (by omega) (by decide) dX2_countOther_22 ?_
      have b6_z : g 14 j k ≤ 9972 := hW.2.2.1.le 14 j k 9971 rfl
      refine lv_aload_n hx hb dX2_countOther_23 rfl (lv_at hl 3 rfl) ?_
      refine lv_iload_n hx hb dX2_countOther_24 rfl (lv_at hl 0 rfl) ?_
      refine r_iald M hW 6 u hu2 (n := 3) rfl (by omega) (by decide) dX2_countOther_25 ?_
      have b7_z : g 6 u k ≤ 9972 := hW.2.2.1.le 6 u k 9971 rfl
      refine n_icmp_eq (tgt := 32) hx hb (Nat.lt_of_le_of_lt b6_z (by decide)) (Nat.lt_of_le_of_lt b7_z (by decide)) dX2_countOther_26 (by decide) (fun c8_z => ?_) (fun c8_z => ?_)
      · refine lv_iinc (v := nI (k + 1)) (lv' := [(3, .int (nI (k + 1))), (2, .int (nI (a))), (0, .ref (ad 13 j)), (1, .ref (ad 6 u))]) hx hb dX2_countOther_32 hl (k := 0) rfl (nI_add _ _) (by decide) rfl (fun ls hl => ?_)
        refine lv_goto (tgt := 4) hx hb dX2_countOther_35 (by decide) ?_
        exact ih (by omega) g (a) _ _ _ ⟨rfl, (by show _ = sumN (fun q => if bit (g 13 j 0) q = 1 ∧ ¬ g 14 j q = g 6 u q then 1 else 0) k + (if bit (g 13 j 0) k = 1 ∧ ¬ g 14 j k = g 6 u k then 1 else 0); rw [← hI, if_neg (fun h => h.2 c8_z)]; try rfl)⟩ hW hS (lv_sub hl [0, 1, 2, 3] rfl)
      · refine lv_iinc (v := nI (a + 1)) (lv' := [(2, .int (nI (a + 1))), (3, .int (nI (k))), (0, .ref (ad 13 j)), (1, .ref (ad 6 u))]) hx hb dX2_countOther_29 hl (k := 1) rfl (nI_add _ _) (by decide) rfl (fun ls hl => ?_)
        refine lv_iinc (v := nI (k + 1)) (lv' := [(3, .int (nI (k + 1))), (2, .int (nI (a + 1))), (0, .ref (ad 13 j)), (1, .ref (ad 6 u))]) hx hb dX2_countOther_32 hl (k := 1) rfl (nI_add _ _) (by decide) rfl (fun ls hl => ?_)
        refine lv_goto (tgt := 4) hx hb dX2_countOther_35 (by decide) ?_
        exact ih (by omega) g (a + 1) _ _ _ ⟨rfl, (by show _ = sumN (fun q => if bit (g 13 j 0) q = 1 ∧ ¬ g 14 j q = g 6 u q then 1 else 0) k + (if bit (g 13 j 0) k = 1 ∧ ¬ g 14 j k = g 6 u k then 1 else 0); rw [← hI, if_pos ⟨c4_z, c8_z⟩]; try rfl)⟩ hW hS (lv_sub hl [0, 1, 2, 3] rfl)
    · refine n_if_eq (tgt := 32) hx hb (by decide) dX2_countOther_14 (by decide) (fun _ => ?_) (fun h9 => absurd h9 (by decide))
      refine lv_iinc (v := nI (k + 1)) (lv' := [(3, .int (nI (k + 1))), (2, .int (nI (a))), (0, .ref (ad 13 j)), (1, .ref (ad 6 u))]) hx hb dX2_countOther_32 hl (k := 0) rfl (nI_add _ _) (by decide) rfl (fun ls hl => ?_)
      refine lv_goto (tgt := 4) hx hb dX2_countOther_35 (by decide) ?_
      exact ih (by omega) g (a) _ _ _ ⟨rfl, (by show _ = sumN (fun q => if bit (g 13 j 0) q = 1 ∧ ¬ g 14 j q = g 6 u q then 1 else 0) k + (if bit (g 13 j 0) k = 1 ∧ ¬ g 14 j k = g 6 u k then 1 else 0); rw [← hI, if_neg (fun h => c4_z h.1)]; try rfl)⟩ hW hS (lv_sub hl [0, 1, 2, 3] rfl)

set_option maxHeartbeats 4000000 in
set_option maxRecDepth 100000 in
theorem c_X2_fits (l : Launch) (D : va_G) (Z : Nat → Nat) (N0 : Nat) (g : T3) (ad : T2) (j u : Nat) (hl13 : lv g 13 j) (hu2 : u < 2) : Met l yX2_fits wsX2_fits ({ frames := 2, cells := 0, slots := 0, locals := 140 } : Room) (PC D Z N0 g ad [.ref (ad 13 j), .ref (ad 6 u)]) (QI D Z N0 ad (fun (r : Int32) (g1 : T3) => Fr g g1 ∧ (bP r (oth g j u = 0) ∧ g = g1))) 0 0 (AA N0) := by
  refine Met.ofW (cc := cX2_fits) (maxL := 2) (ret := (some .boolean)) (by decide) rfl ?_
  intro pP eP sP mP args below meth cP s₁ B hmlP hvP
  obtain ⟨rfl, hW, hC⟩ := hvP
  have hx := B.exec
  have hb := B.bytes
  have hr := B.returns
  have hts := atoms_spec (ws := wsX2_fits) B.pre
  have hown : sP.vm.findClass RX2 = some mP.cls := findClass_of_methodNamed B.named
  have hlocks := B.notSynchronized
  have M : Mx pP mP cP cX2_fits 2 sP ([.ref (ad 13 j), .ref (ad 6 u)] : List Value).toArray wsX2_fits RX2 D Z N0 := ⟨⟨hx, hb, hmlP, hown, hts⟩, hC⟩
  have hf : Fr g g := Fr.rf g
  have hS : va_S (AA N0) sP.heap sP.heap [] := va_S.rf
  have hl := lv_entry ([.ref (ad 13 j), .ref (ad 6 u)]) (n := 2) (Nat.le_of_ble_eq_true rfl)
  rw [lg_entry_eq]
  generalize (lg_sl ([.ref (ad 13 j), .ref (ad 6 u)]) ++ List.replicate (2 - (lg_sl ([.ref (ad 13 j), .ref (ad 6 u)])).length) Slot.unset).toArray = ls at hl ⊢
  have hl : lv_has ls 2 [(0, .ref (ad 13 j)), (1, .ref (ad 6 u))] := hl
  refine lv_aload_n hx hb dX2_fits_0 rfl (lv_at hl 0 rfl) ?_
  refine lv_aload_n hx hb dX2_fits_1 rfl (lv_at hl 1 rfl) ?_
  refine k_ci (k_rV (As := [.ref (ad 6 u)]) (rest := []) M hW hS (c_X2_countOther l D Z N0 g ad j u (hf.lv hl13) hu2) (cwV 1 hts gX2_fits_X2_countOther rfl rfl rfl (by decide +kernel) ⟨Nat.le_of_ble_eq_true rfl, Nat.le_of_ble_eq_true rfl⟩) (r_recv M.2 hW 13 j (hf.lv hl13) rfl rfl) rfl hl.1 rfl (Nat.le_of_ble_eq_true rfl) dX2_fits_2 ⟨Nat.le_of_ble_eq_true rfl, Nat.le_of_ble_eq_true rfl⟩) hS (fun r2_z g1_z H locs hp hW hS => ?_)
  obtain ⟨hf1, hp⟩ := hp
  have hf : Fr g g1_z := hf.trans hf1
  obtain ⟨rfl, hg⟩ := hp
  subst hg
  refine n_if_ne (tgt := 12) hx hb (Nat.lt_of_le_of_lt (oth_le g j u) (by decide)) dX2_fits_5 (by decide) (fun c3_z => ?_) (fun c3_z => ?_)
  · refine lv_iconst (v := nI 0) hx hb dX2_fits_12 (by decide) ?_
    -- path 1
    exact W.zret (v := nI (0)) (ty := .boolean) hx hb hr (nar_b (show 0 ≤ 1 by decide)) (fun t ht hW9 => ⟨⟨nI (0), g, rfl, ⟨hf, ⟨Or.inr ⟨rfl, c3_z⟩, rfl⟩⟩, (show Wd D Z N0 g ad t.heap by rw [ht]; exact hW)⟩, hS.F ht⟩) hS.2.2 dX2_fits_13
  · refine lv_iconst (v := nI 1) hx hb dX2_fits_8 (by decide) ?_
    refine lv_goto (tgt := 13) hx hb dX2_fits_9 (by decide) ?_
    -- path 2
    exact W.zret (v := nI (1)) (ty := .boolean) hx hb hr (nar_b (show 1 ≤ 1 by decide)) (fun t ht hW9 => ⟨⟨nI (1), g, rfl, ⟨hf, ⟨Or.inl ⟨rfl, c3_z⟩, rfl⟩⟩, (show Wd D Z N0 g ad t.heap by rw [ht]; exact hW)⟩, hS.F ht⟩) hS.2.2 dX2_fits_13

set_option maxHeartbeats 4000000 in
set_option maxRecDepth 100000 in
theorem c_X2_bindTo (l : Launch) (D : va_G) (Z : Nat → Nat) (N0 : Nat) (g : T3) (ad : T2) (j u : Nat) (hl13 : lv g 13 j) (hu2 : u < 2) : Met l yX2_bindTo wsX2_bindTo ({ frames := 2, cells := 0, slots := 0, locals := 140 } : Room) (PC D Z N0 g ad [.ref (ad 13 j), .ref (ad 6 u)]) (QI D Z N0 ad (fun (r : Int32) (g1 : T3) => Fr g g1 ∧ (r = nI (oth g j u) ∧ g1 = bnT g j u))) 0 0 (AA N0) := by
  refine Met.ofW (cc := cX2_bindTo) (maxL := 3) (ret := (some .int)) (by decide) rfl ?_
  intro pP eP sP mP args below meth cP s₁ B hmlP hvP
  obtain ⟨rfl, hW, hC⟩ := hvP
  have hx := B.exec
  have hb := B.bytes
  have hr := B.returns
  have hts := atoms_spec (ws := wsX2_bindTo) B.pre
  have hown : sP.vm.findClass RX2 = some mP.cls := findClass_of_methodNamed B.named
  have hlocks := B.notSynchronized
  have i_X2 : ∀ w ∈ wsX20, w ∈ wsX2_bindTo := (fun _ h => List.mem_cons_of_mem _ (List.mem_append_left _ (List.mem_append_right _ h)))
  have k_18 : Cond.fieldLink RX2 18 "StartChain$Secret" "values" "[I" ∈ wsX2_bindTo := by decide +kernel
  have w_Cond_methodLink_RX2_26_arraycopyName : Cond.methodLink RX2 26 arraycopyName ∈ wsX2_bindTo := by decide +kernel
  have w_Cond_native_arraycopyName : Cond.native arraycopyName ∈ wsX2_bindTo := by decide +kernel
  have w_Cond_static_arraycopyName : Cond.static arraycopyName ∈ wsX2_bindTo := by decide +kernel
  have w_Cond_initialized__java_lang_System_ : Cond.initialized "java/lang/System" ∈ wsX2_bindTo := by decide +kernel
  have M : Mx pP mP cP cX2_bindTo 3 sP ([.ref (ad 13 j), .ref (ad 6 u)] : List Value).toArray wsX2_bindTo RX2 D Z N0 := ⟨⟨hx, hb, hmlP, hown, hts⟩, hC⟩
  have hf : Fr g g := Fr.rf g
  have hS : va_S (AA N0) sP.heap sP.heap [] := va_S.rf
  have hl := lv_entry ([.ref (ad 13 j), .ref (ad 6 u)]) (n := 3) (Nat.le_of_ble_eq_true rfl)
  rw [lg_entry_eq]
  generalize (lg_sl ([.ref (ad 13 j), .ref (ad 6 u)]) ++ List.replicate (3 - (lg_sl ([.ref (ad 13 j), .ref (ad 6 u)])).length) Slot.unset).toArray = ls at hl ⊢
  have hl : lv_has ls 3 [(0, .ref (ad 13 j)), (1, .ref (ad 6 u))] := hl
  refine lv_aload_n hx hb dX2_bindTo_0 rfl (lv_at hl 0 rfl) ?_
  refine lv_aload_n hx hb dX2_bindTo_1 rfl (lv_at hl 1 rfl) ?_
  refine k_ci (k_rV (As := [.ref (ad 6 u)]) (rest := []) M hW hS (c_X2_countOther l D Z N0 g ad j u (hf.lv hl13) hu2) (cwV 1 hts gX2_bindTo_X2_countOther rfl rfl rfl (by decide +kernel) ⟨Nat.le_of_ble_eq_true rfl, Nat.le_of_ble_eq_true rfl⟩) (r_recv M.2 hW 13 j (hf.lv hl13) rfl rfl) rfl hl.1 rfl (Nat.le_of_ble_eq_true rfl) dX2_bindTo_2 ⟨Nat.le_of_ble_eq_true rfl, Nat.le_of_ble_eq_true rfl⟩) hS (fun r2_z g1_z H locs hp hW hS => ?_)
  obtain ⟨hf1, hp⟩ := hp
  have hf : Fr g g1_z := hf.trans hf1
  obtain ⟨rfl, hg⟩ := hp
  subst hg
  refine lv_istore_n (lv' := [(2, .int (nI (oth g j u))), (0, .ref (ad 13 j)), (1, .ref (ad 6 u))]) hx hb dX2_bindTo_5 rfl hl (by decide) rfl (fun ls hl => ?_)
  refine lv_aload_n hx hb dX2_bindTo_6 rfl (lv_at hl 2 rfl) ?_
  refine lv_iconst (v := nI 0) hx hb dX2_bindTo_7 (by decide) ?_
  refine lv_aload_n hx hb dX2_bindTo_8 rfl (lv_at hl 1 rfl) ?_
  refine r_get M hW 13 j (hf.lv hl13) (v := .ref (ad 14 j)) rfl rfl i_X2 2 (by decide) k_18 (fun _ h9 => h9) rfl dX2_bindTo_9 ?_
  refine lv_iconst (v := nI 0) hx hb dX2_bindTo_12 (by decide) ?_
  refine lv_iconst (v := nI 3) hx hb dX2_bindTo_13 (by decide) ?_
  refine r_acopy M hW hS u j hu2 (hf.lv hl13) w_Cond_methodLink_RX2_26_arraycopyName w_Cond_native_arraycopyName w_Cond_static_arraycopyName w_Cond_initialized__java_lang_System_ hl.1 (Nat.le_of_ble_eq_true rfl) (by decide +kernel) dX2_bindTo_14 (fun H locs hW hS => ?_)
  obtain ⟨g3_z, eg3_z⟩ : ∃ z, z = bnT g j u := ⟨_, rfl⟩
  rw [← eg3_z] at hW
  have hf : Fr g g3_z := by rw [eg3_z]; exact ((hf.up rfl).up rfl).up rfl
  refine lv_iload_n hx hb dX2_bindTo_17 rfl (lv_at hl 0 rfl) ?_
  -- path 1
  exact W.iret (v := nI (oth g j u)) hx hb hr (fun t ht hW9 => ⟨⟨nI (oth g j u), g3_z, rfl, ⟨hf, ⟨rfl, eg3_z⟩⟩, (show Wd D Z N0 g3_z ad t.heap by rw [ht]; exact hW)⟩, hS.F ht⟩) hS.2.2 dX2_bindTo_18

set_option maxHeartbeats 4000000 in
set_option maxRecDepth 100000 in
theorem c_X4_isOpen (l : Launch) (D : va_G) (Z : Nat → Nat) (N0 : Nat) (g : T3) (ad : T2) (j : Nat) (hl13 : lv g 13 j) : Met l yX4_isOpen wsX4_isOpen ({ frames := 3, cells := 0, slots := 0, locals := 180 } : Room) (PC D Z N0 g ad [.ref (ad 0 0), .ref (ad 13 j)]) (QI D Z N0 ad (fun (r : Int32) (g1 : T3) => Fr g g1 ∧ (bP r (isO g j) ∧ g = g1))) 0 0 (AA N0) := by
  refine Met.ofW (cc := cX4_isOpen) (maxL := 2) (ret := (some .boolean)) (by decide) rfl ?_
  intro pP eP sP mP args below meth cP s₁ B hmlP hvP
  obtain ⟨rfl, hW, hC⟩ := hvP
  have hx := B.exec
  have hb := B.bytes
  have hr := B.returns
  have hts := atoms_spec (ws := wsX4_isOpen) B.pre
  have hown : sP.vm.findClass RX4 = some mP.cls := findClass_of_methodNamed B.named
  have hlocks := B.notSynchronized
  have i_X4 : ∀ w ∈ wsX40, w ∈ wsX4_isOpen := (fun _ h => List.mem_cons_of_mem _ (List.mem_append_left _ (List.mem_append_left _ (List.mem_append_left _ (List.mem_append_right _ h)))))
  have k_36 : Cond.fieldLink RX4 36 "StartChain" "state" "C" ∈ wsX4_isOpen := by decide +kernel
  have k_29 : Cond.fieldLink RX4 29 "StartChain" "lastStart" "LStartChain$Pass;" ∈ wsX4_isOpen := by decide +kernel
  have i_X1 : ∀ w ∈ wsX10, w ∈ wsX4_isOpen := (fun _ h => List.mem_cons_of_mem _ (List.mem_append_left _ (List.mem_append_left _ (List.mem_append_right _ h))))
  have k_168 : Cond.fieldLink RX4 168 "StartChain$Pass" "registers" "[I" ∈ wsX4_isOpen := by decide +kernel
  have M : Mx pP mP cP cX4_isOpen 2 sP ([.ref (ad 0 0), .ref (ad 13 j)] : List Value).toArray wsX4_isOpen RX4 D Z N0 := ⟨⟨hx, hb, hmlP, hown, hts⟩, hC⟩
  have hf : Fr g g := Fr.rf g
  have hS : va_S (AA N0) sP.heap sP.heap [] := va_S.rf
  have hl := lv_entry ([.ref (ad 0 0), .ref (ad 13 j)]) (n := 2) (Nat.le_of_ble_eq_true rfl)
  rw [lg_entry_eq]
  generalize (lg_sl ([.ref (ad 0 0), .ref (ad 13 j)]) ++ List.replicate (2 - (lg_sl ([.ref (ad 0 0), .ref (ad 13 j)])).length) Slot.unset).toArray = ls at hl ⊢
  have hl : lv_has ls 2 [(0, .ref (ad 0 0)), (1, .ref (ad 13 j))] := hl
  refine lv_aload_n hx hb dX4_isOpen_0 rfl (lv_at hl 0 rfl) ?_
  have b1_z : g 0 0 6 ≤ 127 := hW.2.2.1.le 0 0 6 126 rfl
  refine r_get M hW 0 0 (lv0 _) (v := .int (nI (g 0 0 6))) rfl rfl i_X4 6 (by decide) k_36 (fun _ h9 => h9) rfl dX4_isOpen_1 ?_
  refine lv_bipush (v := nI 114) hx hb dX4_isOpen_4 (by decide) ?_
  refine n_icmp_ne (tgt := 27) hx hb (Nat.lt_of_le_of_lt b1_z (by decide)) (by decide) dX4_isOpen_6 (by decide) (fun c2_z => ?_) (fun c2_z => ?_)
  · refine lv_iconst (v := nI 0) hx hb dX4_isOpen_27 (by decide) ?_
    -- path 1
    exact W.zret (v := nI (0)) (ty := .boolean) hx hb hr (nar_b (show 0 ≤ 1 by decide)) (fun t ht hW9 => ⟨⟨nI (0), g, rfl, ⟨hf, ⟨Or.inr ⟨rfl, fun h => c2_z h.1⟩, rfl⟩⟩, (show Wd D Z N0 g ad t.heap by rw [ht]; exact hW)⟩, hS.F ht⟩) hS.2.2 dX4_isOpen_28
  · refine lv_aload_n hx hb dX4_isOpen_9 rfl (lv_at hl 1 rfl) ?_
    refine lv_aload_n hx hb dX4_isOpen_10 rfl (lv_at hl 0 rfl) ?_
    refine r_get M hW 0 0 (lv0 _) (v := .ref (ad 5 0)) rfl rfl i_X4 4 (by decide) k_29 (fun _ h9 => h9) rfl dX4_isOpen_11 ?_
    refine r_get M hW 5 0 (show (0 : Nat) < 2 by decide) (v := .ref (ad 6 0)) rfl rfl i_X1 0 (by decide) k_168 (fun _ h9 => h9) rfl dX4_isOpen_14 ?_
    refine k_ci (k_rV (As := [.ref (ad 6 0)]) (rest := []) M hW hS (c_X2_fits l D Z N0 g ad j 0 (hf.lv hl13) (by decide)) (cwV 1 hts gX4_isOpen_X2_fits rfl rfl rfl (by decide +kernel) ⟨Nat.le_of_ble_eq_true rfl, Nat.le_of_ble_eq_true rfl⟩) (r_recv M.2 hW 13 j (hf.lv hl13) rfl rfl) rfl hl.1 rfl (Nat.le_of_ble_eq_true rfl) dX4_isOpen_17 ⟨Nat.le_of_ble_eq_true rfl, Nat.le_of_ble_eq_true rfl⟩) hS (fun r4_z g3_z H locs hp hW hS => ?_)
    obtain ⟨hf1, hp⟩ := hp
    have hf : Fr g g3_z := hf.trans hf1
    obtain ⟨hp, hg⟩ := hp
    subst hg
    rcases hp with ⟨rfl, c5_z⟩ | ⟨rfl, c5_z⟩
    · refine n_if_eq (tgt := 27) hx hb (by decide) dX4_isOpen_20 (by decide) (fun h9 => absurd h9 (by decide)) (fun _ => ?_)
      refine lv_iconst (v := nI 1) hx hb dX4_isOpen_23 (by decide) ?_
      refine lv_goto (tgt := 28) hx hb dX4_isOpen_24 (by decide) ?_
      -- path 2
      exact W.zret (v := nI (1)) (ty := .boolean) hx hb hr (nar_b (show 1 ≤ 1 by decide)) (fun t ht hW9 => ⟨⟨nI (1), g, rfl, ⟨hf, ⟨Or.inl ⟨rfl, c2_z, c5_z⟩, rfl⟩⟩, (show Wd D Z N0 g ad t.heap by rw [ht]; exact hW)⟩, hS.F ht⟩) hS.2.2 dX4_isOpen_28
    · refine n_if_eq (tgt := 27) hx hb (by decide) dX4_isOpen_20 (by decide) (fun _ => ?_) (fun h9 => absurd h9 (by decide))
      refine lv_iconst (v := nI 0) hx hb dX4_isOpen_27 (by decide) ?_
      -- path 3
      exact W.zret (v := nI (0)) (ty := .boolean) hx hb hr (nar_b (show 0 ≤ 1 by decide)) (fun t ht hW9 => ⟨⟨nI (0), g, rfl, ⟨hf, ⟨Or.inr ⟨rfl, fun h => c5_z h.2⟩, rfl⟩⟩, (show Wd D Z N0 g ad t.heap by rw [ht]; exact hW)⟩, hS.F ht⟩) hS.2.2 dX4_isOpen_28

set_option maxHeartbeats 4000000 in
set_option maxRecDepth 100000 in
theorem c_X4_countRunning (l : Launch) (D : va_G) (Z : Nat → Nat) (N0 : Nat) (g : T3) (ad : T2) : Met l yX4_countRunning wsX4_countRunning ({ frames := 0, cells := 0, slots := 0, locals := 60 } : Room) (PC D Z N0 g ad [.ref (ad 0 0)]) (QI D Z N0 ad (fun (r : Int32) (g1 : T3) => Fr g g1 ∧ (r = nI (cRun g) ∧ g = g1))) 0 0 (AA N0) := by
  refine Met.ofW (cc := cX4_countRunning) (maxL := 1) (ret := (some .int)) (by decide) rfl ?_
  intro pP eP sP mP args below meth cP s₁ B hmlP hvP
  obtain ⟨rfl, hW, hC⟩ := hvP
  have hx := B.exec
  have hb := B.bytes
  have hr := B.returns
  have hts := atoms_spec (ws := wsX4_countRunning) B.pre
  have hown : sP.vm.findClass RX4 = some mP.cls := findClass_of_methodNamed B.named
  have hlocks := B.notSynchronized
  have i_X4 : ∀ w ∈ wsX40, w ∈ wsX4_countRunning := (fun _ h => List.mem_cons_of_mem _ (List.mem_append_left _ (List.mem_append_right _ h)))
  have k_36 : Cond.fieldLink RX4 36 "StartChain" "state" "C" ∈ wsX4_countRunning := by decide +kernel
  have k_29 : Cond.fieldLink RX4 29 "StartChain" "lastStart" "LStartChain$Pass;" ∈ wsX4_countRunning := by decide +kernel
  have i_X1 : ∀ w ∈ wsX10, w ∈ wsX4_countRunning := (fun _ h => List.mem_cons_of_mem _ (List.mem_append_right _ h))
  have k_136 : Cond.fieldLink RX4 136 "StartChain$Pass" "ranCount" "I" ∈ wsX4_countRunning := by decide +kernel
  have M : Mx pP mP cP cX4_countRunning 1 sP ([.ref (ad 0 0)] : List Value).toArray wsX4_countRunning RX4 D Z N0 := ⟨⟨hx, hb, hmlP, hown, hts⟩, hC⟩
  have hf : Fr g g := Fr.rf g
  have hS : va_S (AA N0) sP.heap sP.heap [] := va_S.rf
  have hl := lv_entry ([.ref (ad 0 0)]) (n := 1) (Nat.le_of_ble_eq_true rfl)
  rw [lg_entry_eq]
  generalize (lg_sl ([.ref (ad 0 0)]) ++ List.replicate (1 - (lg_sl ([.ref (ad 0 0)])).length) Slot.unset).toArray = ls at hl ⊢
  have hl : lv_has ls 1 [(0, .ref (ad 0 0))] := hl
  refine lv_aload_n hx hb dX4_countRunning_0 rfl (lv_at hl 0 rfl) ?_
  have b1_z : g 0 0 6 ≤ 127 := hW.2.2.1.le 0 0 6 126 rfl
  refine r_get M hW 0 0 (lv0 _) (v := .int (nI (g 0 0 6))) rfl rfl i_X4 6 (by decide) k_36 (fun _ h9 => h9) rfl dX4_countRunning_1 ?_
  refine lv_bipush (v := nI 111) hx hb dX4_countRunning_4 (by decide) ?_
  refine n_icmp_ne (tgt := 13) hx hb (Nat.lt_of_le_of_lt b1_z (by decide)) (by decide) dX4_countRunning_6 (by decide) (fun c2_z => ?_) (fun c2_z => ?_)
  · refine lv_aload_n hx hb dX4_countRunning_13 rfl (lv_at hl 0 rfl) ?_
    refine r_get M hW 0 0 (lv0 _) (v := .ref (ad 5 0)) rfl rfl i_X4 4 (by decide) k_29 (fun _ h9 => h9) rfl dX4_countRunning_14 ?_
    have b3_z : g 5 0 5 ≤ 6 := hW.2.2.1.le 5 0 5 5 rfl
    refine r_get M hW 5 0 (show (0 : Nat) < 2 by decide) (v := .int (nI (g 5 0 5))) rfl rfl i_X1 5 (by decide) k_136 (fun _ h9 => h9) rfl dX4_countRunning_17 ?_
    -- path 1
    exact W.iret (v := nI (g 5 0 5)) hx hb hr (fun t ht hW9 => ⟨⟨nI (g 5 0 5), g, rfl, ⟨hf, ⟨congrArg nI (by unfold cRun; rw [if_neg c2_z]), rfl⟩⟩, (show Wd D Z N0 g ad t.heap by rw [ht]; exact hW)⟩, hS.F ht⟩) hS.2.2 dX4_countRunning_20
  · refine lv_iconst (v := nI 0) hx hb dX4_countRunning_9 (by decide) ?_
    refine lv_goto (tgt := 20) hx hb dX4_countRunning_10 (by decide) ?_
    -- path 2
    exact W.iret (v := nI (0)) hx hb hr (fun t ht hW9 => ⟨⟨nI (0), g, rfl, ⟨hf, ⟨congrArg nI (by unfold cRun; rw [if_pos c2_z]), rfl⟩⟩, (show Wd D Z N0 g ad t.heap by rw [ht]; exact hW)⟩, hS.F ht⟩) hS.2.2 dX4_countRunning_20

set_option maxHeartbeats 4000000 in
set_option maxRecDepth 100000 in
theorem c_X4_countAgreed (l : Launch) (D : va_G) (Z : Nat → Nat) (N0 : Nat) (g : T3) (ad : T2) : Met l yX4_countAgreed wsX4_countAgreed ({ frames := 0, cells := 0, slots := 0, locals := 60 } : Room) (PC D Z N0 g ad [.ref (ad 0 0)]) (QI D Z N0 ad (fun (r : Int32) (g1 : T3) => Fr g g1 ∧ (r = nI (cAg g) ∧ g = g1))) 0 0 (AA N0) := by
  refine Met.ofW (cc := cX4_countAgreed) (maxL := 3) (ret := (some .int)) (by decide) rfl ?_
  intro pP eP sP mP args below meth cP s₁ B hmlP hvP
  obtain ⟨rfl, hW, hC⟩ := hvP
  have hx := B.exec
  have hb := B.bytes
  have hr := B.returns
  have hts := atoms_spec (ws := wsX4_countAgreed) B.pre
  have hown : sP.vm.findClass RX4 = some mP.cls := findClass_of_methodNamed B.named
  have hlocks := B.notSynchronized
  have i_X4 : ∀ w ∈ wsX40, w ∈ wsX4_countAgreed := (fun _ h => List.mem_cons_of_mem _ (List.mem_append_left _ (List.mem_append_right _ h)))
  have k_23 : Cond.fieldLink RX4 23 "StartChain" "agreed" "[Z" ∈ wsX4_countAgreed := by decide +kernel
  have M : Mx pP mP cP cX4_countAgreed 3 sP ([.ref (ad 0 0)] : List Value).toArray wsX4_countAgreed RX4 D Z N0 := ⟨⟨hx, hb, hmlP, hown, hts⟩, hC⟩
  have hf : Fr g g := Fr.rf g
  have hS : va_S (AA N0) sP.heap sP.heap [] := va_S.rf
  have hl := lv_entry ([.ref (ad 0 0)]) (n := 3) (Nat.le_of_ble_eq_true rfl)
  rw [lg_entry_eq]
  generalize (lg_sl ([.ref (ad 0 0)]) ++ List.replicate (3 - (lg_sl ([.ref (ad 0 0)])).length) Slot.unset).toArray = ls at hl ⊢
  have hl : lv_has ls 3 [(0, .ref (ad 0 0))] := hl
  refine lv_iconst (v := nI 0) hx hb dX4_countAgreed_0 (by decide) ?_
  refine lv_istore_n (lv' := [(1, .int (nI (0))), (0, .ref (ad 0 0))]) hx hb dX4_countAgreed_1 rfl hl (by decide) rfl (fun ls hl => ?_)
  refine lv_iconst (v := nI 0) hx hb dX4_countAgreed_2 (by decide) ?_
  refine lv_istore_n (lv' := [(2, .int (nI (0))), (1, .int (nI (0))), (0, .ref (ad 0 0))]) hx hb dX4_countAgreed_3 rfl hl (by decide) rfl (fun ls hl => ?_)
  refine k_loop (D := D) (Z := Z) (N0 := N0) (ad := ad) (g0 := g) (σ := Nat) (a0 := 0) (5) 3 (0) (fun k gk a => g = gk ∧ (a = sumN (fun q => if g 2 0 q = 0 then 0 else 1) k)) (fun k a => [(2, .int (nI (k))), (1, .int (nI (a))), (0, .ref (ad 0 0))]) (by decide) ⟨rfl, rfl⟩ hW hS (lv_sub hl [0, 1, 2] rfl) (fun n k gk a H locs ls hkn hI hW hS hl ih => ?_)
  obtain ⟨hg, hI⟩ := hI
  subst hg
  refine lv_iload_n hx hb dX4_countAgreed_4 rfl (lv_at hl 0 rfl) ?_
  refine lv_iconst (v := nI 5) hx hb dX4_countAgreed_5 (by decide) ?_
  refine n_icmp_ge (tgt := 27) hx hb (by omega) (by decide) dX4_countAgreed_6 (by decide) (fun c1_z => ?_) (fun c1_z => ?_)
  · refine lv_iload_n hx hb dX4_countAgreed_27 rfl (lv_at hl 1 rfl) ?_
    -- path 1
    exact W.iret (v := nI (a)) hx hb hr (fun t ht hW9 => ⟨⟨nI (a), g, rfl, ⟨hf, ⟨congrArg nI (by rw [hI, show k = 5 by omega]; rfl), rfl⟩⟩, (show Wd D Z N0 g ad t.heap by rw [ht]; exact hW)⟩, hS.F ht⟩) hS.2.2 dX4_countAgreed_28
  · refine lv_aload_n hx hb dX4_countAgreed_9 rfl (lv_at hl 2 rfl) ?_
    refine r_get M hW 0 0 (lv0 _) (v := .ref (ad 2 0)) rfl rfl i_X4 3 (by decide) k_23 (fun _ h9 => h9) rfl dX4_countAgreed_10 ?_
    refine lv_iload_n hx hb dX4_countAgreed_13 rfl (lv_at hl 0 rfl) ?_
    refine r_zald M hW 2 0 (lv2 _) (n := 5) rfl (by omega) (by decide) dX4_countAgreed_14 ?_
    have b2_z : g 2 0 k ≤ 1 := hW.2.2.1.le 2 0 k 0 rfl
    refine n_if_eq (tgt := 21) hx hb (Nat.lt_of_le_of_lt b2_z (by decide)) dX4_countAgreed_15 (by decide) (fun c3_z => ?_) (fun c3_z => ?_)
    · refine lv_iinc (v := nI (k + 1)) (lv' := [(2, .int (nI (k + 1))), (1, .int (nI (a))), (0, .ref (ad 0 0))]) hx hb dX4_countAgreed_21 hl (k := 0) rfl (nI_add _ _) (by decide) rfl (fun ls hl => ?_)
      refine lv_goto (tgt := 4) hx hb dX4_countAgreed_24 (by decide) ?_
      exact ih (by omega) g (a) _ _ _ ⟨rfl, (by show _ = sumN (fun q => if g 2 0 q = 0 then 0 else 1) k + (if g 2 0 k = 0 then 0 else 1); rw [← hI, if_pos c3_z]; try rfl)⟩ hW hS (lv_sub hl [0, 1, 2] rfl)
    · refine lv_iinc (v := nI (a + 1)) (lv' := [(1, .int (nI (a + 1))), (2, .int (nI (k))), (0, .ref (ad 0 0))]) hx hb dX4_countAgreed_18 hl (k := 1) rfl (nI_add _ _) (by decide) rfl (fun ls hl => ?_)
      refine lv_iinc (v := nI (k + 1)) (lv' := [(2, .int (nI (k + 1))), (1, .int (nI (a + 1))), (0, .ref (ad 0 0))]) hx hb dX4_countAgreed_21 hl (k := 1) rfl (nI_add _ _) (by decide) rfl (fun ls hl => ?_)
      refine lv_goto (tgt := 4) hx hb dX4_countAgreed_24 (by decide) ?_
      exact ih (by omega) g (a + 1) _ _ _ ⟨rfl, (by show _ = sumN (fun q => if g 2 0 q = 0 then 0 else 1) k + (if g 2 0 k = 0 then 0 else 1); rw [← hI, if_neg c3_z]; try rfl)⟩ hW hS (lv_sub hl [0, 1, 2] rfl)

set_option maxHeartbeats 4000000 in
set_option maxRecDepth 100000 in
theorem c_X4_forgetAgreed (l : Launch) (D : va_G) (Z : Nat → Nat) (N0 : Nat) (g : T3) (ad : T2) : Met l yX4_forgetAgreed wsX4_forgetAgreed ({ frames := 0, cells := 0, slots := 0, locals := 60 } : Room) (PC D Z N0 g ad [.ref (ad 0 0)]) (QV D Z N0 ad (fun (g1 : T3) => Fr g g1 ∧ (g1 = fAg g 5))) 0 0 (AA N0) := by
  refine Met.ofW (cc := cX4_forgetAgreed) (maxL := 2) (ret := none) (by decide) rfl ?_
  intro pP eP sP mP args below meth cP s₁ B hmlP hvP
  obtain ⟨rfl, hW, hC⟩ := hvP
  have hx := B.exec
  have hb := B.bytes
  have hr := B.returns
  have hts := atoms_spec (ws := wsX4_forgetAgreed) B.pre
  have hown : sP.vm.findClass RX4 = some mP.cls := findClass_of_methodNamed B.named
  have hlocks := B.notSynchronized
  have i_X4 : ∀ w ∈ wsX40, w ∈ wsX4_forgetAgreed := (fun _ h => List.mem_cons_of_mem _ (List.mem_append_left _ (List.mem_append_right _ h)))
  have k_23 : Cond.fieldLink RX4 23 "StartChain" "agreed" "[Z" ∈ wsX4_forgetAgreed := by decide +kernel
  have M : Mx pP mP cP cX4_forgetAgreed 2 sP ([.ref (ad 0 0)] : List Value).toArray wsX4_forgetAgreed RX4 D Z N0 := ⟨⟨hx, hb, hmlP, hown, hts⟩, hC⟩
  have hf : Fr g g := Fr.rf g
  have hS : va_S (AA N0) sP.heap sP.heap [] := va_S.rf
  have hl := lv_entry ([.ref (ad 0 0)]) (n := 2) (Nat.le_of_ble_eq_true rfl)
  rw [lg_entry_eq]
  generalize (lg_sl ([.ref (ad 0 0)]) ++ List.replicate (2 - (lg_sl ([.ref (ad 0 0)])).length) Slot.unset).toArray = ls at hl ⊢
  have hl : lv_has ls 2 [(0, .ref (ad 0 0))] := hl
  refine lv_iconst (v := nI 0) hx hb dX4_forgetAgreed_0 (by decide) ?_
  refine lv_istore_n (lv' := [(1, .int (nI (0))), (0, .ref (ad 0 0))]) hx hb dX4_forgetAgreed_1 rfl hl (by decide) rfl (fun ls hl => ?_)
  refine k_loop (D := D) (Z := Z) (N0 := N0) (ad := ad) (g0 := g) (σ := Unit) (a0 := ()) (5) 2 (0) (fun k gk a => Fr g gk ∧ (gk = fAg g k)) (fun k a => [(1, .int (nI (k))), (0, .ref (ad 0 0))]) (by decide) ⟨hf, rfl⟩ hW hS (lv_sub hl [0, 1] rfl) (fun n k gk a H locs ls hkn hI hW hS hl ih => ?_)
  obtain ⟨hf, hI⟩ := hI
  refine lv_iload_n hx hb dX4_forgetAgreed_2 rfl (lv_at hl 0 rfl) ?_
  refine lv_iconst (v := nI 5) hx hb dX4_forgetAgreed_3 (by decide) ?_
  refine n_icmp_ge (tgt := 20) hx hb (by omega) (by decide) dX4_forgetAgreed_4 (by decide) (fun c1_z => ?_) (fun c1_z => ?_)
  · -- path 1
    exact W.vret hx hb hr (fun t ht hW9 => ⟨⟨gk, rfl, ⟨hf, (by rw [hI, show k = 5 by omega])⟩, (show Wd D Z N0 gk ad t.heap by rw [ht]; exact hW)⟩, hS.F ht⟩) hS.2.2 dX4_forgetAgreed_20
  · refine lv_aload_n hx hb dX4_forgetAgreed_7 rfl (lv_at hl 1 rfl) ?_
    refine r_get M hW 0 0 (lv0 _) (v := .ref (ad 2 0)) rfl rfl i_X4 3 (by decide) k_23 (fun _ h9 => h9) rfl dX4_forgetAgreed_8 ?_
    refine lv_iload_n hx hb dX4_forgetAgreed_11 rfl (lv_at hl 0 rfl) ?_
    refine lv_iconst (v := nI 0) hx hb dX4_forgetAgreed_12 (by decide) ?_
    refine r_zst M hW hS 2 0 (lv2 _) (n := 5) (fun _ => rfl) (by omega) (by decide) rfl (show 0 ≤ 1 by decide) (Or.inr (show 0 ≤ 1 by decide)) dX4_forgetAgreed_13 (fun H locs hW hS => ?_)
    obtain ⟨g2_z, eg2_z⟩ : ∃ z, z = up gk 2 0 k 0 := ⟨_, rfl⟩
    rw [← eg2_z] at hW
    have hf : Fr g g2_z := by rw [eg2_z]; exact hf.up rfl
    refine lv_iinc (v := nI (k + 1)) (lv' := [(1, .int (nI (k + 1))), (0, .ref (ad 0 0))]) hx hb dX4_forgetAgreed_14 hl (k := 0) rfl (nI_add _ _) (by decide) rfl (fun ls hl => ?_)
    refine lv_goto (tgt := 2) hx hb dX4_forgetAgreed_17 (by decide) ?_
    exact ih (by omega) g2_z (()) _ _ _ ⟨hf, (by rw [eg2_z, hI]; try rfl)⟩ hW hS (lv_sub hl [0, 1] rfl)

set_option maxHeartbeats 4000000 in
set_option maxRecDepth 100000 in
theorem c_X4_allRan (l : Launch) (D : va_G) (Z : Nat → Nat) (N0 : Nat) (g : T3) (ad : T2) (u : Nat) (hu2 : u < 2) : Met l yX4_allRan wsX4_allRan ({ frames := 1, cells := 0, slots := 0, locals := 100 } : Room) (PC D Z N0 g ad [.ref (ad 0 0), .ref (ad 5 u)]) (QI D Z N0 ad (fun (r : Int32) (g1 : T3) => Fr g g1 ∧ (bP r (g 5 u 5 = g 3 0 2) ∧ g = g1))) 0 0 (AA N0) := by
  refine Met.ofW (cc := cX4_allRan) (maxL := 2) (ret := (some .boolean)) (by decide) rfl ?_
  intro pP eP sP mP args below meth cP s₁ B hmlP hvP
  obtain ⟨rfl, hW, hC⟩ := hvP
  have hx := B.exec
  have hb := B.bytes
  have hr := B.returns
  have hts := atoms_spec (ws := wsX4_allRan) B.pre
  have hown : sP.vm.findClass RX4 = some mP.cls := findClass_of_methodNamed B.named
  have hlocks := B.notSynchronized
  have i_X1 : ∀ w ∈ wsX10, w ∈ wsX4_allRan := (fun _ h => List.mem_cons_of_mem _ (List.mem_append_left _ (List.mem_append_left _ (List.mem_append_right _ h))))
  have k_136 : Cond.fieldLink RX4 136 "StartChain$Pass" "ranCount" "I" ∈ wsX4_allRan := by decide +kernel
  have i_X4 : ∀ w ∈ wsX40, w ∈ wsX4_allRan := (fun _ h => List.mem_cons_of_mem _ (List.mem_append_left _ (List.mem_append_right _ h)))
  have k_16 : Cond.fieldLink RX4 16 "StartChain" "stages" "Ljava/util/ArrayList;" ∈ wsX4_allRan := by decide +kernel
  have M : Mx pP mP cP cX4_allRan 2 sP ([.ref (ad 0 0), .ref (ad 5 u)] : List Value).toArray wsX4_allRan RX4 D Z N0 := ⟨⟨hx, hb, hmlP, hown, hts⟩, hC⟩
  have hf : Fr g g := Fr.rf g
  have hS : va_S (AA N0) sP.heap sP.heap [] := va_S.rf
  have hl := lv_entry ([.ref (ad 0 0), .ref (ad 5 u)]) (n := 2) (Nat.le_of_ble_eq_true rfl)
  rw [lg_entry_eq]
  generalize (lg_sl ([.ref (ad 0 0), .ref (ad 5 u)]) ++ List.replicate (2 - (lg_sl ([.ref (ad 0 0), .ref (ad 5 u)])).length) Slot.unset).toArray = ls at hl ⊢
  have hl : lv_has ls 2 [(0, .ref (ad 0 0)), (1, .ref (ad 5 u))] := hl
  refine lv_aload_n hx hb dX4_allRan_0 rfl (lv_at hl 1 rfl) ?_
  have b1_z : g 5 u 5 ≤ 6 := hW.2.2.1.le 5 u 5 5 rfl
  refine r_get M hW 5 u hu2 (v := .int (nI (g 5 u 5))) rfl rfl i_X1 5 (by decide) k_136 (fun _ h9 => h9) rfl dX4_allRan_1 ?_
  refine lv_aload_n hx hb dX4_allRan_4 rfl (lv_at hl 0 rfl) ?_
  refine r_get M hW 0 0 (lv0 _) (v := .ref (ad 3 0)) rfl rfl i_X4 1 (by decide) k_16 (fun _ h9 => h9) rfl dX4_allRan_5 ?_
  refine k_ci (k_rV (As := []) (rest := [.int (nI (g 5 u 5))]) M hW hS (c_Jx4a65c_size_8abf5 l D Z N0 g ad 0 (by decide)) (cwV 0 hts gX4_allRan_Jx4a65c_size_8abf5 rfl rfl rfl (by decide +kernel) ⟨Nat.le_of_ble_eq_true rfl, Nat.le_of_ble_eq_true rfl⟩) (r_recv M.2 hW 3 0 (show (0 : Nat) < 2 by decide) rfl rfl) rfl hl.1 rfl (Nat.le_of_ble_eq_true rfl) dX4_allRan_8 ⟨Nat.le_of_ble_eq_true rfl, Nat.le_of_ble_eq_true rfl⟩) hS (fun r3_z g2_z H locs hp hW hS => ?_)
  obtain ⟨hf1, hp⟩ := hp
  have hf : Fr g g2_z := hf.trans hf1
  obtain ⟨rfl, hg⟩ := hp
  subst hg
  have b4_z : g 3 0 2 ≤ 8 := hW.2.2.1.le 3 0 2 7 rfl
  refine n_icmp_ne (tgt := 18) hx hb (Nat.lt_of_le_of_lt b1_z (by decide)) (Nat.lt_of_le_of_lt b4_z (by decide)) dX4_allRan_11 (by decide) (fun c5_z => ?_) (fun c5_z => ?_)
  · refine lv_iconst (v := nI 0) hx hb dX4_allRan_18 (by decide) ?_
    -- path 1
    exact W.zret (v := nI (0)) (ty := .boolean) hx hb hr (nar_b (show 0 ≤ 1 by decide)) (fun t ht hW9 => ⟨⟨nI (0), g, rfl, ⟨hf, ⟨Or.inr ⟨rfl, c5_z⟩, rfl⟩⟩, (show Wd D Z N0 g ad t.heap by rw [ht]; exact hW)⟩, hS.F ht⟩) hS.2.2 dX4_allRan_19
  · refine lv_iconst (v := nI 1) hx hb dX4_allRan_14 (by decide) ?_
    refine lv_goto (tgt := 19) hx hb dX4_allRan_15 (by decide) ?_
    -- path 2
    exact W.zret (v := nI (1)) (ty := .boolean) hx hb hr (nar_b (show 1 ≤ 1 by decide)) (fun t ht hW9 => ⟨⟨nI (1), g, rfl, ⟨hf, ⟨Or.inl ⟨rfl, c5_z⟩, rfl⟩⟩, (show Wd D Z N0 g ad t.heap by rw [ht]; exact hW)⟩, hS.F ht⟩) hS.2.2 dX4_allRan_19

set_option maxHeartbeats 4000000 in
set_option maxRecDepth 100000 in
theorem c_X4_stageWithSlot (l : Launch) (hfl : l.stackTraces = false) (D : va_G) (Z : Nat → Nat) (N0 : Nat) (g : T3) (ad : T2) (x y : Int32) : vx_Met l yX4_stageWithSlot wsX4_stageWithSlot ({ frames := 7, cells := 2, slots := 12, locals := 340 } : Room) (PC D Z N0 g ad [.ref (ad 0 0), .int (x), .int (y)]) (QR D Z N0 ad (fun (r : Nat) (g1 : T3) => Fr g g1 ∧ (∃ i s, i < g 3 0 2 ∧ x = nI i ∧ s < 2 ∧ y = nI s ∧ r = ad 10 i ∧ g = g1))) (QX D Z N0 g ad (fun E => E = "java/lang/IndexOutOfBoundsException" ∧ (¬ Ix (g 3 0 2) x ∨ ¬ Ix 2 y))) 2 12 (AA N0) := by
  refine vx_ofW (cc := cX4_stageWithSlot) (maxL := 4) (ret := (some (.object "StartChain$Stage"))) (by decide) rfl ?_
  intro pP eP sP mP args below meth cP s₁ B hmlP hnt hvP
  obtain ⟨rfl, hW, hC⟩ := hvP
  have hx := B.exec
  have hb := B.bytes
  have hr := B.returns
  have hts := atoms_spec (ws := wsX4_stageWithSlot) B.pre
  have hown : sP.vm.findClass RX4 = some mP.cls := findClass_of_methodNamed B.named
  have hlocks := B.notSynchronized
  have w_Cond_classLink_RX4_152__java_lang_IndexOutOfBoundsException_ : Cond.classLink RX4 152 "java/lang/IndexOutOfBoundsException" ∈ wsX4_stageWithSlot := by decide +kernel
  have w_Cond_initialized__java_lang_IndexOutOfBoundsException_ : Cond.initialized "java/lang/IndexOutOfBoundsException" ∈ wsX4_stageWithSlot := by decide +kernel
  have s_IOO : ∀ w ∈ (vx_atS RX4 156 "java/lang/IndexOutOfBoundsException" thN).filter goodWord, w ∈ wsX4_stageWithSlot := (fun _ h => List.mem_cons_of_mem _ (List.mem_append_right _ h))
  have M : Mx pP mP cP cX4_stageWithSlot 4 sP ([.ref (ad 0 0), .int (x), .int (y)] : List Value).toArray wsX4_stageWithSlot RX4 D Z N0 := ⟨⟨hx, hb, hmlP, hown, hts⟩, hC⟩
  have hf : Fr g g := Fr.rf g
  have hS : va_S (AA N0) sP.heap sP.heap [] := va_S.rf
  have hl := lv_entry ([.ref (ad 0 0), .int (x), .int (y)]) (n := 4) (Nat.le_of_ble_eq_true rfl)
  rw [lg_entry_eq]
  generalize (lg_sl ([.ref (ad 0 0), .int (x), .int (y)]) ++ List.replicate (4 - (lg_sl ([.ref (ad 0 0), .int (x), .int (y)])).length) Slot.unset).toArray = ls at hl ⊢
  have hl : lv_has ls 4 [(0, .ref (ad 0 0)), (1, .int (x)), (2, .int (y))] := hl
  refine lv_aload_n hx hb dX4_stageWithSlot_0 rfl (lv_at hl 0 rfl) ?_
  refine lv_iload_n hx hb dX4_stageWithSlot_1 rfl (lv_at hl 1 rfl) ?_
  refine k_xr (k_xV (As := [.int (x)]) (rest := []) M hW hS (c_X4_stageAt l hfl D Z N0 g ad (x)) (cwV 1 hts gX4_stageWithSlot_X4_stageAt rfl rfl rfl (by decide +kernel) ⟨Nat.le_of_ble_eq_true rfl, Nat.le_of_ble_eq_true rfl⟩) (r_recv M.2 hW 0 0 (lv0 _) rfl rfl) rfl hl.1 rfl (Nat.le_of_ble_eq_true rfl) dX4_stageWithSlot_2 ⟨Nat.le_of_ble_eq_true rfl, Nat.le_of_ble_eq_true rfl⟩) hS (fun E ce q9 H locs hp hW hS hq9 => ?_) (fun r2_z g1_z H locs hp hW hS => ?_)
  · exact k_out ⟨hp.1, Or.inl hp.2⟩ hW hS hq9 hnt hlocks (Nat.le_of_ble_eq_true rfl) (Nat.le_of_ble_eq_true rfl)
  · obtain ⟨hf1, hp⟩ := hp
    have hf : Fr g g1_z := hf.trans hf1
    obtain ⟨i3_z, hi3_z, hxe, hre, hg⟩ := hp
    subst hg
    subst hxe
    subst hre
    have hli3_z : lv g 10 i3_z := Nat.lt_of_lt_of_le hi3_z (hW.2.2.2 0 (by decide)).1
    refine lv_astore_n (lv' := [(3, .ref (ad 10 i3_z)), (0, .ref (ad 0 0)), (1, .int (nI (i3_z))), (2, .int (y))]) hx hb dX4_stageWithSlot_5 rfl hl (by decide) rfl (fun ls hl => ?_)
    refine lv_iload_n hx hb dX4_stageWithSlot_6 rfl (lv_at hl 3 rfl) ?_
    refine lv_iconst (v := nI 0) hx hb dX4_stageWithSlot_7 (by decide) ?_
    refine lv_iconst (v := nI 1) hx hb dX4_stageWithSlot_8 (by decide) ?_
    refine k_ci (k_rS (As := [.int (y), .int (nI (0)), .int (nI (1))]) (rest := []) M hW hS (c_X4_isWithin l D Z N0 g ad (y) (nI (0)) (nI (1))) (va_cwS 3 hts gX4_stageWithSlot_X4_isWithin rfl rfl rfl (by decide +kernel) ⟨Nat.le_of_ble_eq_true rfl, Nat.le_of_ble_eq_true rfl⟩) rfl hl.1 rfl (Nat.le_of_ble_eq_true rfl) dX4_stageWithSlot_9 ⟨Nat.le_of_ble_eq_true rfl, Nat.le_of_ble_eq_true rfl⟩) hS (fun r5_z g4_z H locs hp hW hS => ?_)
    obtain ⟨hf1, hp⟩ := hp
    have hf : Fr g g4_z := hf.trans hf1
    obtain ⟨hp, hg⟩ := hp
    subst hg
    rcases hp with ⟨rfl, c6_z⟩ | ⟨rfl, c6_z⟩
    · obtain ⟨s, hs, rfl⟩ := (ix0_iff (n := 1) (by decide)).mp c6_z
      refine n_if_ne (tgt := 25) hx hb (by decide) dX4_stageWithSlot_12 (by decide) (fun _ => ?_) (fun h9 => absurd h9 (by decide))
      refine lv_aload_n hx hb dX4_stageWithSlot_25 rfl (lv_at hl 0 rfl) ?_
      refine vx_ret ?_
      refine W.widen (k := 2) (n := 12) (Nat.le_of_ble_eq_true rfl) (Nat.le_of_ble_eq_true rfl) ?_
      -- path 1
      exact W.aret (v := .ref (ad 10 i3_z)) hx hb hr (Or.inl ⟨_, rfl⟩) (Or.inr ⟨_, rfl⟩) (fun t ht hW9 => ⟨⟨g, _, rfl, trivial, ⟨hf, ⟨i3_z, s, hi3_z, rfl, hs, rfl, rfl, rfl⟩⟩, (show Wd D Z N0 g ad t.heap by rw [ht]; exact hW)⟩, hS.F ht⟩) hS.2.2 dX4_stageWithSlot_26
    · refine n_if_ne (tgt := 25) hx hb (by decide) dX4_stageWithSlot_12 (by decide) (fun h9 => absurd h9 (by decide)) (fun _ => ?_)
      exact k_throw (cls := "java/lang/IndexOutOfBoundsException") (text := "no such slot") M hfl hW hS (by decide +kernel) (by decide +kernel) (by decide +kernel) g_IOO n_IOO w_Cond_classLink_RX4_152__java_lang_IndexOutOfBoundsException_ w_Cond_initialized__java_lang_IndexOutOfBoundsException_ s_IOO hl.1 hnt hlocks ⟨rfl, Or.inr (fun h => c6_z ((ix0_iff (n := 1) (by decide)).mpr h))⟩ dX4_stageWithSlot_15 dX4_stageWithSlot_18 dX4_stageWithSlot_19 dX4_stageWithSlot_21 dX4_stageWithSlot_24 (Nat.le_of_ble_eq_true rfl) (Nat.le_of_ble_eq_true rfl) (Nat.le_of_ble_eq_true rfl) (Nat.le_of_ble_eq_true rfl) (Nat.le_of_ble_eq_true rfl) (Nat.le_of_ble_eq_true rfl)

set_option maxHeartbeats 4000000 in
set_option maxRecDepth 100000 in
theorem c_X4_imageAt (l : Launch) (hfl : l.stackTraces = false) (D : va_G) (Z : Nat → Nat) (N0 : Nat) (g : T3) (ad : T2) (x y : Int32) : vx_Met l yX4_imageAt wsX4_imageAt ({ frames := 8, cells := 3, slots := 18, locals := 380 } : Room) (PC D Z N0 g ad [.ref (ad 0 0), .int (x), .int (y)]) (QR D Z N0 ad (fun (r : Nat) (g1 : T3) => Fr g g1 ∧ (∃ i s, i < g 3 0 2 ∧ x = nI i ∧ s < 2 ∧ y = nI s ∧ ¬ g 11 i s = 0 ∧ r = ad 12 (2 * i + s) ∧ g = g1))) (QX D Z N0 g ad (fun E => (E = "java/lang/IndexOutOfBoundsException" ∧ (¬ Ix (g 3 0 2) x ∨ ¬ Ix 2 y)) ∨ (E = nx_R ∧ ∃ i s, i < g 3 0 2 ∧ x = nI i ∧ s < 2 ∧ y = nI s ∧ g 11 i s = 0))) 3 18 (AA N0) := by
  refine vx_ofW (cc := cX4_imageAt) (maxL := 4) (ret := (some (.object "StartChain$Image"))) (by decide) rfl ?_
  intro pP eP sP mP args below meth cP s₁ B hmlP hnt hvP
  obtain ⟨rfl, hW, hC⟩ := hvP
  have hx := B.exec
  have hb := B.bytes
  have hr := B.returns
  have hts := atoms_spec (ws := wsX4_imageAt) B.pre
  have hown : sP.vm.findClass RX4 = some mP.cls := findClass_of_methodNamed B.named
  have hlocks := B.notSynchronized
  have i_X3 : ∀ w ∈ wsX30, w ∈ wsX4_imageAt := (fun _ h => List.mem_cons_of_mem _ (List.mem_append_left _ (List.mem_append_left _ (List.mem_append_left _ (List.mem_append_left _ (List.mem_append_right _ h))))))
  have k_246 : Cond.fieldLink RX4 246 "StartChain$Stage" "images" "[LStartChain$Image;" ∈ wsX4_imageAt := by decide +kernel
  have w_Cond_classLink_RX4_160__java_util_NoSuchElementException_ : Cond.classLink RX4 160 "java/util/NoSuchElementException" ∈ wsX4_imageAt := by decide +kernel
  have w_Cond_initialized__java_util_NoSuchElementException_ : Cond.initialized "java/util/NoSuchElementException" ∈ wsX4_imageAt := by decide +kernel
  have s_NSE : ∀ w ∈ (nx_at RX4 164).filter goodWord, w ∈ wsX4_imageAt := (fun _ h => List.mem_cons_of_mem _ (List.mem_append_left _ (List.mem_append_right _ h)))
  have M : Mx pP mP cP cX4_imageAt 4 sP ([.ref (ad 0 0), .int (x), .int (y)] : List Value).toArray wsX4_imageAt RX4 D Z N0 := ⟨⟨hx, hb, hmlP, hown, hts⟩, hC⟩
  have hf : Fr g g := Fr.rf g
  have hS : va_S (AA N0) sP.heap sP.heap [] := va_S.rf
  have hl := lv_entry ([.ref (ad 0 0), .int (x), .int (y)]) (n := 4) (Nat.le_of_ble_eq_true rfl)
  rw [lg_entry_eq]
  generalize (lg_sl ([.ref (ad 0 0), .int (x), .int (y)]) ++ List.replicate (4 - (lg_sl ([.ref (ad 0 0), .int (x), .int (y)])).length) Slot.unset).toArray = ls at hl ⊢
  have hl : lv_has ls 4 [(0, .ref (ad 0 0)), (1, .int (x)), (2, .int (y))] := hl
  refine lv_aload_n hx hb dX4_imageAt_0 rfl (lv_at hl 0 rfl) ?_
  refine lv_iload_n hx hb dX4_imageAt_1 rfl (lv_at hl 1 rfl) ?_
  refine lv_iload_n hx hb dX4_imageAt_2 rfl (lv_at hl 2 rfl) ?_
  refine k_xr (k_xV (As := [.int (x), .int (y)]) (rest := []) M hW hS (c_X4_stageWithSlot l hfl D Z N0 g ad (x) (y)) (cwV 2 hts gX4_imageAt_X4_stageWithSlot rfl rfl rfl (by decide +kernel) ⟨Nat.le_of_ble_eq_true rfl, Nat.le_of_ble_eq_true rfl⟩) (r_recv M.2 hW 0 0 (lv0 _) rfl rfl) rfl hl.1 rfl (Nat.le_of_ble_eq_true rfl) dX4_imageAt_3 ⟨Nat.le_of_ble_eq_true rfl, Nat.le_of_ble_eq_true rfl⟩) hS (fun E ce q9 H locs hp hW hS hq9 => ?_) (fun r2_z g1_z H locs hp hW hS => ?_)
  · exact k_out (Or.inl hp) hW hS hq9 hnt hlocks (Nat.le_of_ble_eq_true rfl) (Nat.le_of_ble_eq_true rfl)
  · obtain ⟨hf1, hp⟩ := hp
    have hf : Fr g g1_z := hf.trans hf1
    obtain ⟨i3_z, s4_z, hi3_z, hxe, hs4_z, hye, hre, hg⟩ := hp
    subst hg
    subst hxe
    subst hye
    subst hre
    have hli3_z : lv g 10 i3_z := Nat.lt_of_lt_of_le hi3_z (hW.2.2.2 0 (by decide)).1
    refine r_get M hW 10 i3_z (hf.lv hli3_z) (v := .ref (ad 11 i3_z)) rfl rfl i_X3 1 (by decide) k_246 (fun _ h9 => h9) rfl dX4_imageAt_6 ?_
    refine lv_iload_n hx hb dX4_imageAt_9 rfl (lv_at hl 2 rfl) ?_
    refine r_aald M hW 11 i3_z (hf.lv hli3_z) (t := 3) (C := "StartChain$Image") rfl rfl (Nat.lt_of_le_of_lt (Nat.le_of_lt_succ hs4_z) (by decide)) (by decide) dX4_imageAt_10 ?_
    by_cases c5_z : g 11 i3_z s4_z = 0
    · refine W.eq (g2 := F0 mP 11 ls (.null :: [])) (congrArg (fun z => F0 mP 11 ls (va_rf z :: [])) (if_pos c5_z)) ?_
      refine lv_astore_nN (lv' := [(3, .null), (0, .ref (ad 0 0)), (1, .int (nI (i3_z))), (2, .int (nI (s4_z)))]) hx hb dX4_imageAt_11 rfl hl (by decide) rfl (fun ls hl => ?_)
      refine lv_aload_nN hx hb dX4_imageAt_12 rfl (lv_at hl 0 rfl) ?_
      refine lv_ifnonnullN hx hb dX4_imageAt_13 ?_
      exact k_throwN (text := "the slot is empty") M hfl hW hS (by decide +kernel) w_Cond_classLink_RX4_160__java_util_NoSuchElementException_ w_Cond_initialized__java_util_NoSuchElementException_ s_NSE hl.1 hnt hlocks (Or.inr ⟨rfl, i3_z, s4_z, hi3_z, rfl, hs4_z, rfl, c5_z⟩) dX4_imageAt_16 dX4_imageAt_19 dX4_imageAt_20 dX4_imageAt_22 dX4_imageAt_25 (Nat.le_of_ble_eq_true rfl) (Nat.le_of_ble_eq_true rfl) (Nat.le_of_ble_eq_true rfl) (Nat.le_of_ble_eq_true rfl) (Nat.le_of_ble_eq_true rfl) (Nat.le_of_ble_eq_true rfl)
    · refine W.eq (g2 := F0 mP 11 ls (.ref (ad 12 (2 * i3_z + s4_z)) :: [])) (congrArg (fun z => F0 mP 11 ls (va_rf z :: [])) (if_neg c5_z)) ?_
      have hl6_z : lv g 12 (2 * i3_z + s4_z) := lv12 (hf.lv hli3_z) (Nat.lt_of_le_of_lt (Nat.le_of_lt_succ hs4_z) (by decide)) c5_z
      refine lv_astore_n (lv' := [(3, .ref (ad 12 (2 * i3_z + s4_z))), (0, .ref (ad 0 0)), (1, .int (nI (i3_z))), (2, .int (nI (s4_z)))]) hx hb dX4_imageAt_11 rfl hl (by decide) rfl (fun ls hl => ?_)
      refine lv_aload_n hx hb dX4_imageAt_12 rfl (lv_at hl 0 rfl) ?_
      refine lv_ifnonnull (tgt := 26) hx hb dX4_imageAt_13 (by decide) ?_
      refine lv_aload_n hx hb dX4_imageAt_26 rfl (lv_at hl 0 rfl) ?_
      refine vx_ret ?_
      refine W.widen (k := 3) (n := 18) (Nat.le_of_ble_eq_true rfl) (Nat.le_of_ble_eq_true rfl) ?_
      -- path 1
      exact W.aret (v := .ref (ad 12 (2 * i3_z + s4_z))) hx hb hr (Or.inl ⟨_, rfl⟩) (Or.inr ⟨_, rfl⟩) (fun t ht hW9 => ⟨⟨g, _, rfl, trivial, ⟨hf, ⟨i3_z, s4_z, hi3_z, rfl, hs4_z, rfl, c5_z, rfl, rfl⟩⟩, (show Wd D Z N0 g ad t.heap by rw [ht]; exact hW)⟩, hS.F ht⟩) hS.2.2 dX4_imageAt_27
