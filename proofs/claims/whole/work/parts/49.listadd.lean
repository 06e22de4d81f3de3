/-! THE METHODS THAT MAKE OBJECTS: a list's add. -/
def addG (g : T3) (L n : Nat) : T3 := up (up (if g 3 L 1 = 0 then up g 3 L 1 1 else g) 4 L n 1) 3 L 2 (n + 1)
set_option maxHeartbeats 4000000 in
set_option maxRecDepth 100000 in
theorem c_Jx4a65c_grow_92f84 (l : Launch) (D : va_G) (Z : Nat → Nat) (N0 : Nat) (g : T3) (ad : T2) (L mm : Nat) (hL : L < 2) (h1 : g 3 L 1 = 0) (hz : ∀ x, g 4 L x = 0) (hm : mm ≤ 10) : Met l yJx4a65c_grow_92f84 wsJx4a65c_grow_92f84 ({ frames := 1, cells := 1, slots := 10, locals := 100 } : Room) (PC D Z N0 g ad [.ref (ad 3 L), .int (nI (mm))]) (QAR D Z N0 (fun (r : Nat) (g1 : T3) (ad1 : T2) => r = ad1 4 L ∧ g1 = up g 3 L 1 1 ∧ ∃ q, ad1 = ad2 ad 4 L q)) 1 10 (AA N0) := by
  refine Met.ofW (cc := cJx4a65c_grow_92f84) (maxL := 4) (ret := (some (.array (.object "java/lang/Object")))) (by decide) rfl ?_
  intro pP eP sP mP args below meth cP s₁ B hmlP hvP
  obtain ⟨rfl, hW, hC⟩ := hvP
  have hx := B.exec
  have hb := B.bytes
  have hr := B.returns
  have hts := atoms_spec (ws := wsJx4a65c_grow_92f84) B.pre
  have hown : sP.vm.findClass RJx4a65c = some mP.cls := findClass_of_methodNamed B.named
  have hlocks := B.notSynchronized
  have i_Jx4a65c : ∀ w ∈ wsJx4a65c0, w ∈ wsJx4a65c_grow_92f84 := (fun _ h => List.mem_cons_of_mem _ (List.mem_append_right _ h))
  have k_9 : Cond.fieldLink RJx4a65c 9 "java/util/ArrayList" "elementData" "[Ljava/lang/Object;" ∈ wsJx4a65c_grow_92f84 := by decide +kernel
  have k_39 : Cond.fieldLink RJx4a65c 39 "java/util/ArrayList" "DEFAULTCAPACITY_EMPTY_ELEMENTDATA" "[Ljava/lang/Object;" ∈ wsJx4a65c_grow_92f84 := by decide +kernel
  have w_Cond_methodLink_RJx4a65c_79_Lib_Math_max_name : Cond.methodLink RJx4a65c 79 Lib.Math.max.name ∈ wsJx4a65c_grow_92f84 := by decide +kernel
  have w_Cond_static_Lib_Math_max_name : Cond.static Lib.Math.max.name ∈ wsJx4a65c_grow_92f84 := by decide +kernel
  have w_Cond_initialized__java_lang_Math_ : Cond.initialized "java/lang/Math" ∈ wsJx4a65c_grow_92f84 := by decide +kernel
  have w_Cond_code_Lib_Math_max_name_Lib_Math_max_code_2__some__int_ : Cond.code Lib.Math.max.name Lib.Math.max.code 2 (some .int) ∈ wsJx4a65c_grow_92f84 := by decide +kernel
  have w_Cond_classLink_RJx4a65c_7__java_lang_Object_ : Cond.classLink RJx4a65c 7 "java/lang/Object" ∈ wsJx4a65c_grow_92f84 := by decide +kernel
  have M : Mx pP mP cP cJx4a65c_grow_92f84 4 sP ([.ref (ad 3 L), .int (nI (mm))] : List Value).toArray wsJx4a65c_grow_92f84 RJx4a65c D Z N0 := ⟨⟨hx, hb, hmlP, hown, hts⟩, hC⟩
  have hf : Fr g g := Fr.rf g
  have hS : va_S (AA N0) sP.heap sP.heap [] := va_S.rf
  have hl := lv_entry ([.ref (ad 3 L), .int (nI (mm))]) (n := 4) (Nat.le_of_ble_eq_true rfl)
  rw [lg_entry_eq]
  generalize (lg_sl ([.ref (ad 3 L), .int (nI (mm))]) ++ List.replicate (4 - (lg_sl ([.ref (ad 3 L), .int (nI (mm))])).length) Slot.unset).toArray = ls at hl ⊢
  have hl : lv_has ls 4 [(0, .ref (ad 3 L)), (1, .int (nI (mm)))] := hl
  refine lv_aload_n hx hb dJx4a65c_grow_92f84_0 rfl (lv_at hl 0 rfl) ?_
  refine r_get M hW 3 L hL (v := .ref (if g 3 L 1 = 0 then Z 6 else ad 4 L)) rfl rfl i_Jx4a65c 1 (by decide) k_9 (fun _ h9 => h9) rfl dJx4a65c_grow_92f84_1 ?_
  refine W.eq (g2 := F0 mP 4 ls (.ref (Z 6) :: [])) (congrArg (fun z => F0 mP 4 ls (.ref z :: [])) (if_pos h1)) ?_
  refine va_tlen (t := Z 6) (N := 0) hx hb hC.2.2.t hS (v := nI 0) rfl dJx4a65c_grow_92f84_4 ?_
  refine lv_istore_n (lv' := [(2, .int (nI (0))), (0, .ref (ad 3 L)), (1, .int (nI (mm)))]) hx hb dJx4a65c_grow_92f84_5 rfl hl (by decide) rfl (fun ls hl => ?_)
  refine lv_iload_n hx hb dJx4a65c_grow_92f84_6 rfl (lv_at hl 0 rfl) ?_
  refine n_if_gt (tgt := 20) hx hb (by decide) dJx4a65c_grow_92f84_7 (by decide) (fun h9 => absurd h9 (by decide)) (fun _ => ?_)
  refine lv_aload_n hx hb dJx4a65c_grow_92f84_10 rfl (lv_at hl 1 rfl) ?_
  refine r_get M hW 3 L hL (v := .ref (if g 3 L 1 = 0 then Z 6 else ad 4 L)) rfl rfl i_Jx4a65c 1 (by decide) k_9 (fun _ h9 => h9) rfl dJx4a65c_grow_92f84_11 ?_
  refine W.eq (g2 := F0 mP 14 ls (.ref (Z 6) :: [])) (congrArg (fun z => F0 mP 14 ls (.ref z :: [])) (if_pos h1)) ?_
  refine va_gets hx hb hC.2.2.z hS hown (hts _ k_39) (fun _ h9 => h9) dJx4a65c_grow_92f84_14 ?_
  refine lv_acmp_eq (rx := some (Z 6)) (ry := some (Z 6)) (tgt := 45) hx hb dJx4a65c_grow_92f84_17 (by decide) (fun _ => ?_) (fun h9 => absurd rfl h9)
  refine lv_aload_n hx hb dJx4a65c_grow_92f84_45 rfl (lv_at hl 1 rfl) ?_
  refine lv_bipush (v := nI 10) hx hb dJx4a65c_grow_92f84_46 (by decide) ?_
  refine lv_iload_n hx hb dJx4a65c_grow_92f84_48 rfl (lv_at hl 2 rfl) ?_
  refine va_mmax hx hb (hmlP.trans hl.1.symm) hown (hts _ w_Cond_methodLink_RJx4a65c_79_Lib_Math_max_name) (hts _ w_Cond_static_Lib_Math_max_name) (hts _ w_Cond_initialized__java_lang_Math_) (hts _ w_Cond_code_Lib_Math_max_name_Lib_Math_max_code_2__some__int_) (Nat.le_of_ble_eq_true rfl) (Nat.le_of_ble_eq_true rfl) (Nat.le_of_ble_eq_true rfl) (Nat.le_of_ble_eq_true rfl) dJx4a65c_grow_92f84_49 ?_
  refine W.eq (g2 := F0 mP 52 ls (.int (nI 10) :: [.ref (ad 3 L)])) (congrArg (fun z => F0 mP 52 ls (.int z :: [.ref (ad 3 L)])) (if_neg (fun h => absurd ((nI_ltI (by decide) (by omega)).mp h) (by omega)))) ?_
  refine r_newq (C := "java/lang/Object") (n := 10) M hW hS w_Cond_classLink_RJx4a65c_7__java_lang_Object_ hC.2.2.ao1 2 rfl (by decide) (by decide) (Nat.le_of_ble_eq_true rfl) (Nat.le_of_ble_eq_true rfl) (Nat.le_of_ble_eq_true rfl) dJx4a65c_grow_92f84_52 (fun q H hq hR hW hS => ?_)
  refine lv_dup_x1 hx hb dJx4a65c_grow_92f84_55 rfl rfl ?_
  refine r_rows M hW hS hL hz hq hR i_Jx4a65c k_9 dJx4a65c_grow_92f84_56 (fun H locs hW hS => ?_)
  obtain ⟨adx, hadx⟩ : ∃ z, z = ad2 ad 4 L q := ⟨_, rfl⟩
  rw [← hadx] at hW
  refine W.widen (k := 1) (n := 10) (Nat.le_of_ble_eq_true rfl) (Nat.le_of_ble_eq_true rfl) ?_
  -- path 1
  exact W.aret (v := .ref q) hx hb hr (Or.inr ⟨_, rfl⟩) (Or.inr ⟨_, rfl⟩) (fun t ht hW9 => ⟨⟨((up g 3 L 1 1), adx), _, rfl, trivial, ⟨(show q = adx 4 L by rw [hadx, ad2_s]), rfl, q, hadx⟩, (show Wd D Z N0 (up g 3 L 1 1) adx t.heap by rw [ht]; exact hW)⟩, hS.F ht⟩) hS.2.2 dJx4a65c_grow_92f84_59

set_option maxHeartbeats 4000000 in
set_option maxRecDepth 100000 in
theorem c_Jx4a65c_grow_d5877 (l : Launch) (D : va_G) (Z : Nat → Nat) (N0 : Nat) (g : T3) (ad : T2) (L : Nat) (hL : L < 2) (h1 : g 3 L 1 = 0) (hz : ∀ x, g 4 L x = 0) (h20 : g 3 L 2 = 0) : Met l yJx4a65c_grow_d5877 wsJx4a65c_grow_d5877 ({ frames := 2, cells := 1, slots := 10, locals := 140 } : Room) (PC D Z N0 g ad [.ref (ad 3 L)]) (QAR D Z N0 (fun (r : Nat) (g1 : T3) (ad1 : T2) => r = ad1 4 L ∧ g1 = up g 3 L 1 1 ∧ ∃ q, ad1 = ad2 ad 4 L q)) 1 10 (AA N0) := by
  refine Met.ofW (cc := cJx4a65c_grow_d5877) (maxL := 1) (ret := (some (.array (.object "java/lang/Object")))) (by decide) rfl ?_
  intro pP eP sP mP args below meth cP s₁ B hmlP hvP
  obtain ⟨rfl, hW, hC⟩ := hvP
  have hx := B.exec
  have hb := B.bytes
  have hr := B.returns
  have hts := atoms_spec (ws := wsJx4a65c_grow_d5877) B.pre
  have hown : sP.vm.findClass RJx4a65c = some mP.cls := findClass_of_methodNamed B.named
  have hlocks := B.notSynchronized
  have i_Jx4a65c : ∀ w ∈ wsJx4a65c0, w ∈ wsJx4a65c_grow_d5877 := (fun _ h => List.mem_cons_of_mem _ (List.mem_append_right _ h))
  have k_48 : Cond.fieldLink RJx4a65c 48 "java/util/ArrayList" "size" "I" ∈ wsJx4a65c_grow_d5877 := by decide +kernel
  have M : Mx pP mP cP cJx4a65c_grow_d5877 1 sP ([.ref (ad 3 L)] : List Value).toArray wsJx4a65c_grow_d5877 RJx4a65c D Z N0 := ⟨⟨hx, hb, hmlP, hown, hts⟩, hC⟩
  have hf : Fr g g := Fr.rf g
  have hS : va_S (AA N0) sP.heap sP.heap [] := va_S.rf
  have hl := lv_entry ([.ref (ad 3 L)]) (n := 1) (Nat.le_of_ble_eq_true rfl)
  rw [lg_entry_eq]
  generalize (lg_sl ([.ref (ad 3 L)]) ++ List.replicate (1 - (lg_sl ([.ref (ad 3 L)])).length) Slot.unset).toArray = ls at hl ⊢
  have hl : lv_has ls 1 [(0, .ref (ad 3 L))] := hl
  refine lv_aload_n hx hb dJx4a65c_grow_d5877_0 rfl (lv_at hl 0 rfl) ?_
  refine lv_aload_n hx hb dJx4a65c_grow_d5877_1 rfl (lv_at hl 0 rfl) ?_
  have b1_z : g 3 L 2 ≤ 8 := hW.2.2.1.le 3 L 2 7 rfl
  refine r_get M hW 3 L hL (v := .int (nI (g 3 L 2))) rfl rfl i_Jx4a65c 2 (by decide) k_48 (fun _ h9 => h9) rfl dJx4a65c_grow_d5877_2 ?_
  refine lv_iconst (v := nI 1) hx hb dJx4a65c_grow_d5877_5 (by decide) ?_
  refine n_iadd hx hb dJx4a65c_grow_d5877_6 ?_
  refine k_cAr (k_rV (As := [.int (nI (g 3 L 2 + 1))]) (rest := []) M hW hS (c_Jx4a65c_grow_92f84 l D Z N0 g ad L (g 3 L 2 + 1) hL h1 hz (by omega)) (cwV 1 hts gJx4a65c_grow_d5877_Jx4a65c_grow_92f84 rfl rfl rfl (by decide +kernel) ⟨(Nat.le_of_ble_eq_true rfl), (Nat.le_of_ble_eq_true rfl)⟩) (r_recv M.2 hW 3 L hL rfl rfl) rfl hl.1 rfl (Nat.le_of_ble_eq_true rfl) dJx4a65c_grow_d5877_7 ⟨(Nat.le_of_ble_eq_true rfl), (Nat.le_of_ble_eq_true rfl)⟩) hS (fun r3_z g2_z ad4_z H locs hp hW hS => ?_)
  have hf : Fr g2_z g2_z := Fr.rf _
  obtain ⟨hr1, hg1, hq1⟩ := hp
  refine W.widen (k := 1) (n := 10) (Nat.le_of_ble_eq_true rfl) (Nat.le_of_ble_eq_true rfl) ?_
  -- path 1
  exact W.aret (v := .ref r3_z) hx hb hr (Or.inr ⟨_, rfl⟩) (Or.inr ⟨_, rfl⟩) (fun t ht hW9 => ⟨⟨(g2_z, ad4_z), _, rfl, trivial, ⟨hr1, hg1, hq1⟩, (show Wd D Z N0 g2_z ad4_z t.heap by rw [ht]; exact hW)⟩, hS.F ht⟩) hS.2.2 dJx4a65c_grow_d5877_10

set_option maxHeartbeats 4000000 in
set_option maxRecDepth 100000 in
theorem c_Jx4a65c_add_72be8 (l : Launch) (D : va_G) (Z : Nat → Nat) (N0 : Nat) (g : T3) (ad : T2) (L n : Nat) (hL : L < 2) (h2 : g 3 L 2 = n) (hn : n < 8) (hlive : n < g 3 L 3) (hz : ∀ x, n ≤ x → g 4 L x = 0) : Met l yJx4a65c_add_72be8 wsJx4a65c_add_72be8 ({ frames := 3, cells := 1, slots := 10, locals := 180 } : Room) (PC D Z N0 g ad [.ref (ad 3 L), .ref (ad (10 + 3 * L) n), .ref (if g 3 L 1 = 0 then Z 6 else ad 4 L), .int (nI (n))]) (QAV D Z N0 (fun (g1 : T3) (ad1 : T2) => g1 = addG g L n ∧ ∀ a b, ¬ (a = 4 ∧ b = L) → ad1 a b = ad a b)) 1 10 (AA N0) := by
  refine Met.ofW (cc := cJx4a65c_add_72be8) (maxL := 4) (ret := none) (by decide) rfl ?_
  intro pP eP sP mP args below meth cP s₁ B hmlP hvP
  obtain ⟨rfl, hW, hC⟩ := hvP
  have hx := B.exec
  have hb := B.bytes
  have hr := B.returns
  have hts := atoms_spec (ws := wsJx4a65c_add_72be8) B.pre
  have hown : sP.vm.findClass RJx4a65c = some mP.cls := findClass_of_methodNamed B.named
  have hlocks := B.notSynchronized
  have i_Jx4a65c : ∀ w ∈ wsJx4a65c0, w ∈ wsJx4a65c_add_72be8 := (fun _ h => List.mem_cons_of_mem _ (List.mem_append_right _ h))
  have k_48 : Cond.fieldLink RJx4a65c 48 "java/util/ArrayList" "size" "I" ∈ wsJx4a65c_add_72be8 := by decide +kernel
  have M : Mx pP mP cP cJx4a65c_add_72be8 4 sP ([.ref (ad 3 L), .ref (ad (10 + 3 * L) n), .ref (if g 3 L 1 = 0 then Z 6 else ad 4 L), .int (nI (n))] : List Value).toArray wsJx4a65c_add_72be8 RJx4a65c D Z N0 := ⟨⟨hx, hb, hmlP, hown, hts⟩, hC⟩
  have hf : Fr g g := Fr.rf g
  have hS : va_S (AA N0) sP.heap sP.heap [] := va_S.rf
  have hl := lv_entry ([.ref (ad 3 L), .ref (ad (10 + 3 * L) n), .ref (if g 3 L 1 = 0 then Z 6 else ad 4 L), .int (nI (n))]) (n := 4) (Nat.le_of_ble_eq_true rfl)
  rw [lg_entry_eq]
  generalize (lg_sl ([.ref (ad 3 L), .ref (ad (10 + 3 * L) n), .ref (if g 3 L 1 = 0 then Z 6 else ad 4 L), .int (nI (n))]) ++ List.replicate (4 - (lg_sl ([.ref (ad 3 L), .ref (ad (10 + 3 * L) n), .ref (if g 3 L 1 = 0 then Z 6 else ad 4 L), .int (nI (n))])).length) Slot.unset).toArray = ls at hl ⊢
  have hl : lv_has ls 4 [(0, .ref (ad 3 L)), (1, .ref (ad (10 + 3 * L) n)), (2, .ref (if g 3 L 1 = 0 then Z 6 else ad 4 L)), (3, .int (nI (n)))] := hl
  refine lv_iload_n hx hb dJx4a65c_add_72be8_0 rfl (lv_at hl 3 rfl) ?_
  refine lv_aload_n hx hb dJx4a65c_add_72be8_1 rfl (lv_at hl 2 rfl) ?_
  by_cases h1 : g 3 L 1 = 0
  · have hn0 : n = 0 := by
        by_cases z : n = 0
        · exact z
        · exact absurd h1 ((hW.2.2.2 L hL).2.1 (by omega))
    refine W.eq (g2 := F0 mP 2 ls (.ref (Z 6) :: [.int (nI (n))])) (congrArg (fun z => F0 mP 2 ls (.ref z :: [.int (nI (n))])) (if_pos h1)) ?_
    refine va_tlen (t := Z 6) (N := 0) hx hb hC.2.2.t hS (v := nI 0) rfl dJx4a65c_add_72be8_2 ?_
    refine n_icmp_ne (tgt := 11) hx hb (by omega) (by decide) dJx4a65c_add_72be8_3 (by decide) (fun c1_z => ?_) (fun c1_z => ?_)
    · exact absurd hn0 c1_z
    · refine lv_aload_n hx hb dJx4a65c_add_72be8_6 rfl (lv_at hl 0 rfl) ?_
      refine k_cAr (k_rV (As := []) (rest := []) M hW hS (c_Jx4a65c_grow_d5877 l D Z N0 g ad L hL h1 (fun x => hz x (by omega)) (by omega)) (cwV 0 hts gJx4a65c_add_72be8_Jx4a65c_grow_d5877 rfl rfl rfl (by decide +kernel) ⟨(Nat.le_of_ble_eq_true rfl), (Nat.le_of_ble_eq_true rfl)⟩) (r_recv M.2 hW 3 L hL rfl rfl) rfl hl.1 rfl (Nat.le_of_ble_eq_true rfl) dJx4a65c_add_72be8_7 ⟨(Nat.le_of_ble_eq_true rfl), (Nat.le_of_ble_eq_true rfl)⟩) hS (fun r3_z g2_z ad4_z H locs hp hW hS => ?_)
      have hf : Fr g2_z g2_z := Fr.rf _
      obtain ⟨rfl, rfl, q, hq1⟩ := hp
      have hf : Fr (up g 3 L 1 1) (up g 3 L 1 1) := Fr.rf _
      have eA : ∀ a b, ¬ (a = 4 ∧ b = L) → ad a b = ad4_z a b := fun a b h => by rw [hq1, ad2_n _ _ _ _ h]
      have e3 : ad 3 L = ad4_z 3 L := eA 3 L (by omega)
      have eE : ad (10 + 3 * L) n = ad4_z (10 + 3 * L) n := eA _ n (by omega)
      rw [e3, eE] at hl
      have b1 : up g 3 L 1 1 3 L 1 ≠ 0 := by rw [up_at, if_pos ⟨rfl, rfl, rfl⟩]; decide
      have b2 : up g 3 L 1 1 3 L 2 = n := by rw [up_at, if_neg (by omega)]; exact h2
      have b3 : n < up g 3 L 1 1 3 L 3 := by rw [up_at, if_neg (by omega)]; exact hlive
      refine lv_astore_n (lv' := [(2, .ref (ad4_z 4 L)), (0, .ref (ad4_z 3 L)), (1, .ref (ad4_z (10 + 3 * L) n)), (3, .int (nI (n)))]) hx hb dJx4a65c_add_72be8_10 rfl hl (by decide) rfl (fun ls hl => ?_)
      refine lv_aload_n hx hb dJx4a65c_add_72be8_11 rfl (lv_at hl 0 rfl) ?_
      refine lv_iload_n hx hb dJx4a65c_add_72be8_12 rfl (lv_at hl 3 rfl) ?_
      refine lv_aload_n hx hb dJx4a65c_add_72be8_13 rfl (lv_at hl 2 rfl) ?_
      refine r_elem M hW hS hL b1 hn b3 dJx4a65c_add_72be8_14 (fun H locs hW hS => ?_)
      have hf : Fr (up (up g 3 L 1 1) 4 L n 1) (up (up g 3 L 1 1) 4 L n 1) := Fr.rf _
      refine lv_aload_n hx hb dJx4a65c_add_72be8_15 rfl (lv_at hl 1 rfl) ?_
      refine lv_iload_n hx hb dJx4a65c_add_72be8_16 rfl (lv_at hl 3 rfl) ?_
      refine lv_iconst (v := nI 1) hx hb dJx4a65c_add_72be8_17 (by decide) ?_
      refine n_iadd hx hb dJx4a65c_add_72be8_18 ?_
      refine r_size M hW hS hL (by rw [up_at, if_neg (by omega)]; exact b1) hn (by rw [up_at, if_neg (by omega)]; exact b3) (by rw [up_at, if_neg (by omega)]; exact b2) (by rw [up_at, if_pos ⟨rfl, rfl, rfl⟩]; decide) i_Jx4a65c k_48 dJx4a65c_add_72be8_19 (fun H locs hW hS => ?_)
      refine W.widen (k := 1) (n := 10) (Nat.le_of_ble_eq_true rfl) (Nat.le_of_ble_eq_true rfl) ?_
      -- path 1
      exact W.vret hx hb hr (fun t ht hW9 => ⟨⟨((up (up (up g 3 L 1 1) 4 L n 1) 3 L 2 (n + 1)), ad4_z), rfl, ⟨(by unfold addG; rw [if_pos h1]), fun a b h => (eA a b h).symm⟩, (show Wd D Z N0 (up (up (up g 3 L 1 1) 4 L n 1) 3 L 2 (n + 1)) ad4_z t.heap by rw [ht]; exact hW)⟩, hS.F ht⟩) hS.2.2 dJx4a65c_add_72be8_22
  · rw [if_neg h1] at hl
    refine W.eq (g2 := F0 mP 2 ls (.ref (ad 4 L) :: [.int (nI (n))])) (congrArg (fun z => F0 mP 2 ls (.ref z :: [.int (nI (n))])) (if_neg h1)) ?_
    refine r_alen M hW 4 L ⟨hL, h1⟩ (t := 2) (n := 10) rfl rfl dJx4a65c_add_72be8_2 ?_
    have b1 : g 3 L 1 ≠ 0 := h1
    have b2 := h2
    have b3 := hlive
    refine n_icmp_ne (tgt := 11) hx hb (by omega) (by decide) dJx4a65c_add_72be8_3 (by decide) (fun c5_z => ?_) (fun c5_z => ?_)
    · refine lv_aload_n hx hb dJx4a65c_add_72be8_11 rfl (lv_at hl 2 rfl) ?_
      refine lv_iload_n hx hb dJx4a65c_add_72be8_12 rfl (lv_at hl 3 rfl) ?_
      refine lv_aload_n hx hb dJx4a65c_add_72be8_13 rfl (lv_at hl 1 rfl) ?_
      refine r_elem M hW hS hL b1 hn b3 dJx4a65c_add_72be8_14 (fun H locs hW hS => ?_)
      have hf : Fr (up g 4 L n 1) (up g 4 L n 1) := Fr.rf _
      refine lv_aload_n hx hb dJx4a65c_add_72be8_15 rfl (lv_at hl 0 rfl) ?_
      refine lv_iload_n hx hb dJx4a65c_add_72be8_16 rfl (lv_at hl 3 rfl) ?_
      refine lv_iconst (v := nI 1) hx hb dJx4a65c_add_72be8_17 (by decide) ?_
      refine n_iadd hx hb dJx4a65c_add_72be8_18 ?_
      refine r_size M hW hS hL (by rw [up_at, if_neg (by omega)]; exact b1) hn (by rw [up_at, if_neg (by omega)]; exact b3) (by rw [up_at, if_neg (by omega)]; exact b2) (by rw [up_at, if_pos ⟨rfl, rfl, rfl⟩]; decide) i_Jx4a65c k_48 dJx4a65c_add_72be8_19 (fun H locs hW hS => ?_)
      refine W.widen (k := 1) (n := 10) (Nat.le_of_ble_eq_true rfl) (Nat.le_of_ble_eq_true rfl) ?_
      -- path 2
      exact W.vret hx hb hr (fun t ht hW9 => ⟨⟨((up (up g 4 L n 1) 3 L 2 (n + 1)), ad), rfl, ⟨(by unfold addG; rw [if_neg h1]), fun _ _ _ => rfl⟩, (show Wd D Z N0 (up (up g 4 L n 1) 3 L 2 (n + 1)) ad t.heap by rw [ht]; exact hW)⟩, hS.F ht⟩) hS.2.2 dJx4a65c_add_72be8_22
    · exact absurd c5_z (by omega)

set_option maxHeartbeats 4000000 in
set_option maxRecDepth 100000 in
theorem c_Jx4a65c_add_9ea2d (l : Launch) (D : va_G) (Z : Nat → Nat) (N0 : Nat) (g : T3) (ad : T2) (L n : Nat) (hL : L < 2) (h2 : g 3 L 2 = n) (hn : n < 8) (hlive : n < g 3 L 3) (hz : ∀ x, n ≤ x → g 4 L x = 0) : Met l yJx4a65c_add_9ea2d wsJx4a65c_add_9ea2d ({ frames := 4, cells := 1, slots := 10, locals := 220 } : Room) (PC D Z N0 g ad [.ref (ad 3 L), .ref (ad (10 + 3 * L) n)]) (QA D Z N0 (fun (r : Int32) (g1 : T3) (ad1 : T2) => r = nI 1 ∧ g1 = addG (up g 3 L 0 (g 3 L 0 + 1)) L n ∧ ∀ a b, ¬ (a = 4 ∧ b = L) → ad1 a b = ad a b)) 1 10 (AA N0) := by
  refine Met.ofW (cc := cJx4a65c_add_9ea2d) (maxL := 2) (ret := (some .boolean)) (by decide) rfl ?_
  intro pP eP sP mP args below meth cP s₁ B hmlP hvP
  obtain ⟨rfl, hW, hC⟩ := hvP
  have hx := B.exec
  have hb := B.bytes
  have hr := B.returns
  have hts := atoms_spec (ws := wsJx4a65c_add_9ea2d) B.pre
  have hown : sP.vm.findClass RJx4a65c = some mP.cls := findClass_of_methodNamed B.named
  have hlocks := B.notSynchronized
  have w_same : Cond.sameField "java/util/ArrayList" "java/util/AbstractList" "modCount" "I" ∈ wsJx4a65c_add_9ea2d := by decide +kernel
  have i_Jx4a65c : ∀ w ∈ wsJx4a65c0, w ∈ wsJx4a65c_add_9ea2d := (fun _ h => List.mem_cons_of_mem _ (List.mem_append_right _ h))
  have k_63 : Cond.fieldLink RJx4a65c 63 "java/util/ArrayList" "modCount" "I" ∈ wsJx4a65c_add_9ea2d := by decide +kernel
  have k_9 : Cond.fieldLink RJx4a65c 9 "java/util/ArrayList" "elementData" "[Ljava/lang/Object;" ∈ wsJx4a65c_add_9ea2d := by decide +kernel
  have k_48 : Cond.fieldLink RJx4a65c 48 "java/util/ArrayList" "size" "I" ∈ wsJx4a65c_add_9ea2d := by decide +kernel
  have M : Mx pP mP cP cJx4a65c_add_9ea2d 2 sP ([.ref (ad 3 L), .ref (ad (10 + 3 * L) n)] : List Value).toArray wsJx4a65c_add_9ea2d RJx4a65c D Z N0 := ⟨⟨hx, hb, hmlP, hown, hts⟩, hC⟩
  have hf : Fr g g := Fr.rf g
  have hS : va_S (AA N0) sP.heap sP.heap [] := va_S.rf
  have hl := lv_entry ([.ref (ad 3 L), .ref (ad (10 + 3 * L) n)]) (n := 2) (Nat.le_of_ble_eq_true rfl)
  rw [lg_entry_eq]
  generalize (lg_sl ([.ref (ad 3 L), .ref (ad (10 + 3 * L) n)]) ++ List.replicate (2 - (lg_sl ([.ref (ad 3 L), .ref (ad (10 + 3 * L) n)])).length) Slot.unset).toArray = ls at hl ⊢
  have hl : lv_has ls 2 [(0, .ref (ad 3 L)), (1, .ref (ad (10 + 3 * L) n))] := hl
  refine lv_aload_n hx hb dJx4a65c_add_9ea2d_0 rfl (lv_at hl 0 rfl) ?_
  refine lv_dup hx hb dJx4a65c_add_9ea2d_1 rfl ?_
  refine r_get M hW 3 L hL (v := .int (nI (g 3 L 0))) rfl rfl i_Jx4a65c 0 (by decide) k_63 (fun x9 h9 => u_same (hts _ w_same) x9 h9) rfl dJx4a65c_add_9ea2d_2 ?_
  refine lv_iconst (v := nI 1) hx hb dJx4a65c_add_9ea2d_5 (by decide) ?_
  refine n_iadd hx hb dJx4a65c_add_9ea2d_6 ?_
  refine r_put M hW hS 3 L hL rfl rfl i_Jx4a65c tyJx4a65c tyJx4a65c_ok nmJx4a65c 0 (by decide) k_63 (fun x9 h9 => u_same (hts _ w_same) x9 h9) rfl (ty := .int) (by decide +kernel) rfl rfl (Nat.le_of_ble_eq_true rfl) rfl rfl (Or.inl rfl) dJx4a65c_add_9ea2d_7 (fun H locs hW hS => ?_)
  obtain ⟨g1_z, eg1_z⟩ : ∃ z, z = up g 3 L 0 (g 3 L 0 + 1) := ⟨_, rfl⟩
  rw [← eg1_z] at hW
  have hf : Fr g g1_z := by rw [eg1_z]; exact hf.up rfl
  have z2 : g1_z 3 L 2 = n := by rw [eg1_z, up_at, if_neg (by omega)]; exact h2
  have z3 : n < g1_z 3 L 3 := by rw [eg1_z, up_at, if_neg (by omega)]; exact hlive
  have z4 : ∀ x, n ≤ x → g1_z 4 L x = 0 := fun x hx => by rw [eg1_z, up_at, if_neg (by omega)]; exact hz x hx
  refine lv_aload_n hx hb dJx4a65c_add_9ea2d_10 rfl (lv_at hl 0 rfl) ?_
  refine lv_aload_n hx hb dJx4a65c_add_9ea2d_11 rfl (lv_at hl 1 rfl) ?_
  refine lv_aload_n hx hb dJx4a65c_add_9ea2d_12 rfl (lv_at hl 0 rfl) ?_
  refine r_get M hW 3 L hL (v := .ref (if g1_z 3 L 1 = 0 then Z 6 else ad 4 L)) rfl rfl i_Jx4a65c 1 (by decide) k_9 (fun _ h9 => h9) rfl dJx4a65c_add_9ea2d_13 ?_
  refine lv_aload_n hx hb dJx4a65c_add_9ea2d_16 rfl (lv_at hl 0 rfl) ?_
  have q2_z : g1_z 3 L 2 = g 3 L 2 := by rw [eg1_z]; first | rfl | simp [up_at]
  have b3_z : g1_z 3 L 2 ≤ 8 := hW.2.2.1.le 3 L 2 7 rfl
  refine r_get M hW 3 L hL (v := .int (nI (g1_z 3 L 2))) rfl rfl i_Jx4a65c 2 (by decide) k_48 (fun _ h9 => h9) rfl dJx4a65c_add_9ea2d_17 ?_
  have q4_z : g1_z 3 L 2 = n := z2
  refine W.eq (g2 := F0 mP 20 ls (.int (nI (n)) :: [.ref (if g1_z 3 L 1 = 0 then Z 6 else ad 4 L), .ref (ad (10 + 3 * L) n), .ref (ad 3 L)])) (congrArg (fun z => F0 mP 20 ls (.int (nI z) :: [.ref (if g1_z 3 L 1 = 0 then Z 6 else ad 4 L), .ref (ad (10 + 3 * L) n), .ref (ad 3 L)])) q4_z) ?_
  refine k_cAv (k_rV (As := [.ref (ad (10 + 3 * L) n), .ref (if g1_z 3 L 1 = 0 then Z 6 else ad 4 L), .int (nI (n))]) (rest := []) M hW hS (c_Jx4a65c_add_72be8 l D Z N0 g1_z ad L n hL z2 hn z3 z4) (cwV 3 hts gJx4a65c_add_9ea2d_Jx4a65c_add_72be8 rfl rfl rfl (by decide +kernel) ⟨(Nat.le_of_ble_eq_true rfl), (Nat.le_of_ble_eq_true rfl)⟩) (r_recv M.2 hW 3 L hL rfl rfl) rfl hl.1 rfl (Nat.le_of_ble_eq_true rfl) dJx4a65c_add_9ea2d_20 ⟨(Nat.le_of_ble_eq_true rfl), (Nat.le_of_ble_eq_true rfl)⟩) hS (fun g5_z ad7_z H locs hp hW hS => ?_)
  have hf : Fr g5_z g5_z := Fr.rf _
  obtain ⟨hg1, eA⟩ := hp
  refine lv_iconst (v := nI 1) hx hb dJx4a65c_add_9ea2d_23 (by decide) ?_
  refine W.widen (k := 1) (n := 10) (Nat.le_of_ble_eq_true rfl) (Nat.le_of_ble_eq_true rfl) ?_
  -- path 1
  exact W.zret (v := nI (1)) (ty := .boolean) hx hb hr (nar_b (show 1 ≤ 1 by decide)) (fun t ht hW9 => ⟨⟨nI (1), (g5_z, ad7_z), rfl, ⟨rfl, (by rw [hg1, eg1_z]), eA⟩, (show Wd D Z N0 g5_z ad7_z t.heap by rw [ht]; exact hW)⟩, hS.F ht⟩) hS.2.2 dJx4a65c_add_9ea2d_24
