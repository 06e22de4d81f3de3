/-! THE MODEL'S METHODS, second part. -/
def mrb (g : T3) (r : Nat) : Nat → Nat
  | 0 => 0
  | k + 1 => if g 32 0 k / 1000 = r then (31 * mrb g r k + g 32 0 k % 1000 + 1) % 9973 else mrb g r k
theorem mrb_le (g : T3) (r : Nat) : ∀ k, mrb g r k ≤ 9972
  | 0 => Nat.zero_le _
  | k + 1 => by
    show (if g 32 0 k / 1000 = r then (31 * mrb g r k + g 32 0 k % 1000 + 1) % 9973 else mrb g r k) ≤ 9972
    split
    · omega
    · exact mrb_le g r k
def mCm (g : T3) : Nat → Nat × T3
  | 0 => (0, g)
  | k + 1 => if (mCm g k).2 31 0 k ≤ (mCm g k).2 26 0 k then mCm g k else ((mCm g k).1 + 1, up (mCm g k).2 26 0 k ((mCm g k).2 31 0 k))
theorem mCm_0 {g : T3} {k : Nat} (h : (mCm g k).2 31 0 k ≤ (mCm g k).2 26 0 k) : mCm g (k + 1) = mCm g k := if_pos h
theorem mCm_1 {g : T3} {k : Nat} (h : ¬ (mCm g k).2 31 0 k ≤ (mCm g k).2 26 0 k) : mCm g (k + 1) = ((mCm g k).1 + 1, up (mCm g k).2 26 0 k ((mCm g k).2 31 0 k)) := if_neg h
set_option maxHeartbeats 4000000 in
set_option maxRecDepth 100000 in
theorem c_X5_isSealed (l : Launch) (D : va_G) (Z : Nat → Nat) (N0 : Nat) (g : T3) (ad : T2) (j q : Nat) (hj8 : j < 8) (hq3 : q < 3) : Met l yX5_isSealed wsX5_isSealed ({ frames := 0, cells := 0, slots := 0, locals := 60 } : Room) (PC D Z N0 g ad [.ref (ad 20 0), .int (nI (j)), .int (nI (q))]) (QI D Z N0 ad (fun (r : Int32) (g1 : T3) => Fr g g1 ∧ (bP r (bit (g 37 0 j) q = 1) ∧ g = g1))) 0 0 (AA N0) := by
  refine Met.ofW (cc := cX5_isSealed) (maxL := 3) (ret := (some .boolean)) (by decide) rfl ?_
  intro pP eP sP mP args below meth cP s₁ B hmlP hvP
  obtain ⟨rfl, hW, hC⟩ := hvP
  have hx := B.exec
  have hb := B.bytes
  have hr := B.returns
  have hts := atoms_spec (ws := wsX5_isSealed) B.pre
  have hown : sP.vm.findClass RX5 = some mP.cls := findClass_of_methodNamed B.named
  have hlocks := B.notSynchronized
  have i_X5 : ∀ w ∈ wsX50, w ∈ wsX5_isSealed := (fun _ h => List.mem_cons_of_mem _ (List.mem_append_left _ (List.mem_append_right _ h)))
  have k_59 : Cond.fieldLink RX5 59 "StartChainModel" "sealedTo" "[I" ∈ wsX5_isSealed := by decide +kernel
  have M : Mx pP mP cP cX5_isSealed 3 sP ([.ref (ad 20 0), .int (nI (j)), .int (nI (q))] : List Value).toArray wsX5_isSealed RX5 D Z N0 := ⟨⟨hx, hb, hmlP, hown, hts⟩, hC⟩
  have hf : Fr g g := Fr.rf g
  have hS : va_S (AA N0) sP.heap sP.heap [] := va_S.rf
  have hl := lv_entry ([.ref (ad 20 0), .int (nI (j)), .int (nI (q))]) (n := 3) (Nat.le_of_ble_eq_true rfl)
  rw [lg_entry_eq]
  generalize (lg_sl ([.ref (ad 20 0), .int (nI (j)), .int (nI (q))]) ++ List.replicate (3 - (lg_sl ([.ref (ad 20 0), .int (nI (j)), .int (nI (q))])).length) Slot.unset).toArray = ls at hl ⊢
  have hl : lv_has ls 3 [(0, .ref (ad 20 0)), (1, .int (nI (j))), (2, .int (nI (q)))] := hl
  refine lv_aload_n hx hb dX5_isSealed_0 rfl (lv_at hl 0 rfl) ?_
  refine r_get M hW 20 0 (lvM _) (v := .ref (ad 37 0)) rfl rfl i_X5 16 (by decide) k_59 (fun _ h9 => h9) rfl dX5_isSealed_1 ?_
  refine lv_iload_n hx hb dX5_isSealed_4 rfl (lv_at hl 1 rfl) ?_
  refine r_iald M hW 37 0 ⟨rfl, by decide, by decide⟩ (n := 8) rfl (by omega) (by decide) dX5_isSealed_5 ?_
  have b1_z : g 37 0 j ≤ 7 := hW.2.2.1.le 37 0 j 6 rfl
  refine lv_iload_n hx hb dX5_isSealed_6 rfl (lv_at hl 2 rfl) ?_
  refine n_ishr hx hb (Nat.lt_of_le_of_lt b1_z (by decide)) (sh3 hq3) dX5_isSealed_7 ?_
  refine lv_iconst (v := nI 1) hx hb dX5_isSealed_8 (by decide) ?_
  refine n_iand1 hx hb (Nat.lt_of_le_of_lt (Nat.div_le_self _ _) (Nat.lt_of_le_of_lt b1_z (by decide))) dX5_isSealed_9 ?_
  refine lv_iconst (v := nI 1) hx hb dX5_isSealed_10 (by decide) ?_
  refine n_icmp_ne (tgt := 18) hx hb (by omega) (by decide) dX5_isSealed_11 (by decide) (fun c2_z => ?_) (fun c2_z => ?_)
  · refine lv_iconst (v := nI 0) hx hb dX5_isSealed_18 (by decide) ?_
    -- path 1
    exact W.zret (v := nI (0)) (ty := .boolean) hx hb hr (nar_b (show 0 ≤ 1 by decide)) (fun t ht hW9 => ⟨⟨nI (0), g, rfl, ⟨hf, ⟨Or.inr ⟨rfl, c2_z⟩, rfl⟩⟩, (show Wd D Z N0 g ad t.heap by rw [ht]; exact hW)⟩, hS.F ht⟩) hS.2.2 dX5_isSealed_19
  · refine lv_iconst (v := nI 1) hx hb dX5_isSealed_14 (by decide) ?_
    refine lv_goto (tgt := 19) hx hb dX5_isSealed_15 (by decide) ?_
    -- path 2
    exact W.zret (v := nI (1)) (ty := .boolean) hx hb hr (nar_b (show 1 ≤ 1 by decide)) (fun t ht hW9 => ⟨⟨nI (1), g, rfl, ⟨hf, ⟨Or.inl ⟨rfl, c2_z⟩, rfl⟩⟩, (show Wd D Z N0 g ad t.heap by rw [ht]; exact hW)⟩, hS.F ht⟩) hS.2.2 dX5_isSealed_19

set_option maxHeartbeats 4000000 in
set_option maxRecDepth 100000 in
theorem c_X5_seals (l : Launch) (D : va_G) (Z : Nat → Nat) (N0 : Nat) (g : T3) (ad : T2) (j b : Nat) (hj8 : j < 8) (hb1 : b ≤ 1) : Met l yX5_seals wsX5_seals ({ frames := 0, cells := 0, slots := 0, locals := 60 } : Room) (PC D Z N0 g ad [.ref (ad 20 0), .int (nI (j)), .int (nI (b))]) (QV D Z N0 ad (fun (g1 : T3) => Fr g g1 ∧ (g1 = mSe g j b 3))) 0 0 (AA N0) := by
  refine Met.ofW (cc := cX5_seals) (maxL := 4) (ret := none) (by decide) rfl ?_
  intro pP eP sP mP args below meth cP s₁ B hmlP hvP
  obtain ⟨rfl, hW, hC⟩ := hvP
  have hx := B.exec
  have hb := B.bytes
  have hr := B.returns
  have hts := atoms_spec (ws := wsX5_seals) B.pre
  have hown : sP.vm.findClass RX5 = some mP.cls := findClass_of_methodNamed B.named
  have hlocks := B.notSynchronized
  have i_X5 : ∀ w ∈ wsX50, w ∈ wsX5_seals := (fun _ h => List.mem_cons_of_mem _ (List.mem_append_left _ (List.mem_append_right _ h)))
  have k_65 : Cond.fieldLink RX5 65 "StartChainModel" "sealedValues" "[I" ∈ wsX5_seals := by decide +kernel
  have k_47 : Cond.fieldLink RX5 47 "StartChainModel" "values" "[I" ∈ wsX5_seals := by decide +kernel
  have k_56 : Cond.fieldLink RX5 56 "StartChainModel" "triedValues" "[I" ∈ wsX5_seals := by decide +kernel
  have M : Mx pP mP cP cX5_seals 4 sP ([.ref (ad 20 0), .int (nI (j)), .int (nI (b))] : List Value).toArray wsX5_seals RX5 D Z N0 := ⟨⟨hx, hb, hmlP, hown, hts⟩, hC⟩
  have hf : Fr g g := Fr.rf g
  have hS : va_S (AA N0) sP.heap sP.heap [] := va_S.rf
  have hl := lv_entry ([.ref (ad 20 0), .int (nI (j)), .int (nI (b))]) (n := 4) (Nat.le_of_ble_eq_true rfl)
  rw [lg_entry_eq]
  generalize (lg_sl ([.ref (ad 20 0), .int (nI (j)), .int (nI (b))]) ++ List.replicate (4 - (lg_sl ([.ref (ad 20 0), .int (nI (j)), .int (nI (b))])).length) Slot.unset).toArray = ls at hl ⊢
  have hl : lv_has ls 4 [(0, .ref (ad 20 0)), (1, .int (nI (j))), (2, .int (nI (b)))] := hl
  refine lv_iconst (v := nI 0) hx hb dX5_seals_0 (by decide) ?_
  refine lv_istore_n (lv' := [(3, .int (nI (0))), (0, .ref (ad 20 0)), (1, .int (nI (j))), (2, .int (nI (b)))]) hx hb dX5_seals_1 rfl hl (by decide) rfl (fun ls hl => ?_)
  refine k_loop (D := D) (Z := Z) (N0 := N0) (ad := ad) (g0 := g) (σ := Unit) (a0 := ()) (3) 4 (0) (fun k gk a => Fr g gk ∧ (gk = mSe g j b k)) (fun k a => [(3, .int (nI (k))), (0, .ref (ad 20 0)), (1, .int (nI (j))), (2, .int (nI (b)))]) (by decide) ⟨hf, rfl⟩ hW hS (lv_sub hl [0, 1, 2, 3] rfl) (fun n k gk a H locs ls hkn hI hW hS hl ih => ?_)
  obtain ⟨hf, hI⟩ := hI
  refine lv_iload_n hx hb dX5_seals_2 rfl (lv_at hl 0 rfl) ?_
  refine lv_iconst (v := nI 3) hx hb dX5_seals_3 (by decide) ?_
  refine n_icmp_ge (tgt := 42) hx hb (by omega) (by decide) dX5_seals_4 (by decide) (fun c1_z => ?_) (fun c1_z => ?_)
  · -- path 1
    exact W.vret hx hb hr (fun t ht hW9 => ⟨⟨gk, rfl, ⟨hf, (by rw [hI, show k = 3 by omega])⟩, (show Wd D Z N0 gk ad t.heap by rw [ht]; exact hW)⟩, hS.F ht⟩) hS.2.2 dX5_seals_42
  · refine lv_aload_n hx hb dX5_seals_7 rfl (lv_at hl 1 rfl) ?_
    refine r_get M hW 20 0 (lvM _) (v := .ref (ad 39 0)) rfl rfl i_X5 18 (by decide) k_65 (fun _ h9 => h9) rfl dX5_seals_8 ?_
    refine lv_iconst (v := nI 3) hx hb dX5_seals_11 (by decide) ?_
    refine lv_iload_n hx hb dX5_seals_12 rfl (lv_at hl 2 rfl) ?_
    refine n_imul hx hb dX5_seals_13 ?_
    refine lv_iload_n hx hb dX5_seals_14 rfl (lv_at hl 0 rfl) ?_
    refine n_iadd hx hb dX5_seals_15 ?_
    refine lv_iload_n hx hb dX5_seals_16 rfl (lv_at hl 3 rfl) ?_
    refine n_if_eq (tgt := 29) hx hb (Nat.lt_of_le_of_lt hb1 (by decide)) dX5_seals_17 (by decide) (fun c2_z => ?_) (fun c2_z => ?_)
    · refine lv_aload_n hx hb dX5_seals_29 rfl (lv_at hl 1 rfl) ?_
      refine r_get M hW 20 0 (lvM _) (v := .ref (ad 33 0)) rfl rfl i_X5 12 (by decide) k_47 (fun _ h9 => h9) rfl dX5_seals_30 ?_
      refine lv_iload_n hx hb dX5_seals_33 rfl (lv_at hl 0 rfl) ?_
      refine r_iald M hW 33 0 ⟨rfl, by decide, by decide⟩ (n := 3) rfl (by omega) (by decide) dX5_seals_34 ?_
      have b3_z : gk 33 0 k ≤ 9972 := hW.2.2.1.le 33 0 k 9971 rfl
      refine r_ist M hW hS 39 0 ⟨rfl, by decide, by decide⟩ (n := 24) (fun _ => rfl) (by omega) (by decide) rfl (Or.inr b3_z) dX5_seals_35 (fun H locs hW hS => ?_)
      obtain ⟨g4_z, eg4_z⟩ : ∃ z, z = up gk 39 0 (3 * j + k) (gk 33 0 k) := ⟨_, rfl⟩
      rw [← eg4_z] at hW
      have hf : Fr g g4_z := by rw [eg4_z]; exact hf.up rfl
      refine lv_iinc (v := nI (k + 1)) (lv' := [(3, .int (nI (k + 1))), (0, .ref (ad 20 0)), (1, .int (nI (j))), (2, .int (nI (b)))]) hx hb dX5_seals_36 hl (k := 0) rfl (nI_add _ _) (by decide) rfl (fun ls hl => ?_)
      refine lv_goto (tgt := 2) hx hb dX5_seals_39 (by decide) ?_
      exact ih (by omega) g4_z (()) _ _ _ ⟨hf, (by rw [eg4_z, hI]; show up _ 39 0 (3 * j + k) _ = up _ 39 0 (3 * j + k) _; rw [show bV (mSe g j b k) b k = _ from if_pos c2_z])⟩ hW hS (lv_sub hl [0, 1, 2, 3] rfl)
    · refine lv_aload_n hx hb dX5_seals_20 rfl (lv_at hl 1 rfl) ?_
      refine r_get M hW 20 0 (lvM _) (v := .ref (ad 36 0)) rfl rfl i_X5 15 (by decide) k_56 (fun _ h9 => h9) rfl dX5_seals_21 ?_
      refine lv_iload_n hx hb dX5_seals_24 rfl (lv_at hl 0 rfl) ?_
      refine r_iald M hW 36 0 ⟨rfl, by decide, by decide⟩ (n := 3) rfl (by omega) (by decide) dX5_seals_25 ?_
      have b5_z : gk 36 0 k ≤ 9972 := hW.2.2.1.le 36 0 k 9971 rfl
      refine lv_goto (tgt := 35) hx hb dX5_seals_26 (by decide) ?_
      refine r_ist M hW hS 39 0 ⟨rfl, by decide, by decide⟩ (n := 24) (fun _ => rfl) (by omega) (by decide) rfl (Or.inr b5_z) dX5_seals_35 (fun H locs hW hS => ?_)
      obtain ⟨g6_z, eg6_z⟩ : ∃ z, z = up gk 39 0 (3 * j + k) (gk 36 0 k) := ⟨_, rfl⟩
      rw [← eg6_z] at hW
      have hf : Fr g g6_z := by rw [eg6_z]; exact hf.up rfl
      refine lv_iinc (v := nI (k + 1)) (lv' := [(3, .int (nI (k + 1))), (0, .ref (ad 20 0)), (1, .int (nI (j))), (2, .int (nI (b)))]) hx hb dX5_seals_36 hl (k := 0) rfl (nI_add _ _) (by decide) rfl (fun ls hl => ?_)
      refine lv_goto (tgt := 2) hx hb dX5_seals_39 (by decide) ?_
      exact ih (by omega) g6_z (()) _ _ _ ⟨hf, (by rw [eg6_z, hI]; show up _ 39 0 (3 * j + k) _ = up _ 39 0 (3 * j + k) _; rw [show bV (mSe g j b k) b k = _ from if_neg c2_z])⟩ hW hS (lv_sub hl [0, 1, 2, 3] rfl)

set_option maxHeartbeats 4000000 in
set_option maxRecDepth 100000 in
theorem c_X5_others (l : Launch) (D : va_G) (Z : Nat → Nat) (N0 : Nat) (g : T3) (ad : T2) (j b : Nat) (hj8 : j < 8) (hb1 : b ≤ 1) : Met l yX5_others wsX5_others ({ frames := 1, cells := 0, slots := 0, locals := 100 } : Room) (PC D Z N0 g ad [.ref (ad 20 0), .int (nI (j)), .int (nI (b))]) (QI D Z N0 ad (fun (r : Int32) (g1 : T3) => Fr g g1 ∧ (r = nI (mOt g j b) ∧ g = g1))) 0 0 (AA N0) := by
  refine Met.ofW (cc := cX5_others) (maxL := 5) (ret := (some .int)) (by decide) rfl ?_
  intro pP eP sP mP args below meth cP s₁ B hmlP hvP
  obtain ⟨rfl, hW, hC⟩ := hvP
  have hx := B.exec
  have hb := B.bytes
  have hr := B.returns
  have hts := atoms_spec (ws := wsX5_others) B.pre
  have hown : sP.vm.findClass RX5 = some mP.cls := findClass_of_methodNamed B.named
  have hlocks := B.notSynchronized
  have i_X5 : ∀ w ∈ wsX50, w ∈ wsX5_others := (fun _ h => List.mem_cons_of_mem _ (List.mem_append_left _ (List.mem_append_right _ h)))
  have k_65 : Cond.fieldLink RX5 65 "StartChainModel" "sealedValues" "[I" ∈ wsX5_others := by decide +kernel
  have k_47 : Cond.fieldLink RX5 47 "StartChainModel" "values" "[I" ∈ wsX5_others := by decide +kernel
  have k_56 : Cond.fieldLink RX5 56 "StartChainModel" "triedValues" "[I" ∈ wsX5_others := by decide +kernel
  have M : Mx pP mP cP cX5_others 5 sP ([.ref (ad 20 0), .int (nI (j)), .int (nI (b))] : List Value).toArray wsX5_others RX5 D Z N0 := ⟨⟨hx, hb, hmlP, hown, hts⟩, hC⟩
  have hf : Fr g g := Fr.rf g
  have hS : va_S (AA N0) sP.heap sP.heap [] := va_S.rf
  have hl := lv_entry ([.ref (ad 20 0), .int (nI (j)), .int (nI (b))]) (n := 5) (Nat.le_of_ble_eq_true rfl)
  rw [lg_entry_eq]
  generalize (lg_sl ([.ref (ad 20 0), .int (nI (j)), .int (nI (b))]) ++ List.replicate (5 - (lg_sl ([.ref (ad 20 0), .int (nI (j)), .int (nI (b))])).length) Slot.unset).toArray = ls at hl ⊢
  have hl : lv_has ls 5 [(0, .ref (ad 20 0)), (1, .int (nI (j))), (2, .int (nI (b)))] := hl
  refine lv_iconst (v := nI 0) hx hb dX5_others_0 (by decide) ?_
  refine lv_istore_n (lv' := [(3, .int (nI (0))), (0, .ref (ad 20 0)), (1, .int (nI (j))), (2, .int (nI (b)))]) hx hb dX5_others_1 rfl hl (by decide) rfl (fun ls hl => ?_)
  refine lv_iconst (v := nI 0) hx hb dX5_others_2 (by decide) ?_
  refine lv_istore (lv' := [(4, .int (nI (0))), (3, .int (nI (0))), (0, .ref (ad 20 0)), (1, .int (nI (j))), (2, .int (nI (b)))]) hx hb dX5_others_3 hl (by decide) rfl (fun ls hl => ?_)
  refine k_loop (D := D) (Z := Z) (N0 := N0) (ad := ad) (g0 := g) (σ := Nat) (a0 := 0) (3) 5 (0) (fun k gk a => g = gk ∧ (a = sumN (fun q => if bit (g 37 0 j) q = 1 ∧ ¬ g 39 0 (3 * j + q) = bV g b q then 1 else 0) k)) (fun k a => [(4, .int (nI (k))), (3, .int (nI (a))), (0, .ref (ad 20 0)), (1, .int (nI (j))), (2, .int (nI (b)))]) (by decide) ⟨rfl, rfl⟩ hW hS (lv_sub hl [0, 1, 2, 3, 4] rfl) (fun n k gk a H locs ls hkn hI hW hS hl ih => ?_)
  obtain ⟨hg, hI⟩ := hI
  subst hg
  have ha9 : a ≤ k := by rw [hI]; exact Nat.le_trans (sumN_le (b := 1) (fun q => by split <;> omega) k) (Nat.le_of_eq (Nat.mul_one k))
  refine lv_iload hx hb dX5_others_5 (lv_at hl 0 rfl) ?_
  refine lv_iconst (v := nI 3) hx hb dX5_others_7 (by decide) ?_
  refine n_icmp_ge (tgt := 70) hx hb (by omega) (by decide) dX5_others_8 (by decide) (fun c1_z => ?_) (fun c1_z => ?_)
  · refine lv_iload_n hx hb dX5_others_70 rfl (lv_at hl 1 rfl) ?_
    -- path 1
    exact W.iret (v := nI (a)) hx hb hr (fun t ht hW9 => ⟨⟨nI (a), g, rfl, ⟨hf, ⟨congrArg nI (by rw [hI, show k = 3 by omega]; rfl), rfl⟩⟩, (show Wd D Z N0 g ad t.heap by rw [ht]; exact hW)⟩, hS.F ht⟩) hS.2.2 dX5_others_71
  · refine lv_iload_n hx hb dX5_others_11 rfl (lv_at hl 1 rfl) ?_
    refine lv_aload_n hx hb dX5_others_12 rfl (lv_at hl 2 rfl) ?_
    refine lv_iload_n hx hb dX5_others_13 rfl (lv_at hl 3 rfl) ?_
    refine lv_iload hx hb dX5_others_14 (lv_at hl 0 rfl) ?_
    refine k_ci (k_rV (As := [.int (nI (j)), .int (nI (k))]) (rest := [.int (nI (a))]) M hW hS (c_X5_isSealed l D Z N0 g ad j k hj8 (by omega)) (cwV 2 hts gX5_others_X5_isSealed rfl rfl rfl (by decide +kernel) ⟨Nat.le_of_ble_eq_true rfl, Nat.le_of_ble_eq_true rfl⟩) (r_recv M.2 hW 20 0 (lvM _) rfl rfl) rfl hl.1 rfl (Nat.le_of_ble_eq_true rfl) dX5_others_16 ⟨Nat.le_of_ble_eq_true rfl, Nat.le_of_ble_eq_true rfl⟩) hS (fun r3_z g2_z H locs hp hW hS => ?_)
    obtain ⟨hf1, hp⟩ := hp
    have hf : Fr g g2_z := hf.trans hf1
    obtain ⟨hp, hg⟩ := hp
    subst hg
    rcases hp with ⟨rfl, c4_z⟩ | ⟨rfl, c4_z⟩
    · refine n_if_eq (tgt := 61) hx hb (by decide) dX5_others_19 (by decide) (fun h9 => absurd h9 (by decide)) (fun _ => ?_)
      refine lv_aload_n hx hb dX5_others_22 rfl (lv_at hl 2 rfl) ?_
      refine r_get M hW 20 0 (lvM _) (v := .ref (ad 39 0)) rfl rfl i_X5 18 (by decide) k_65 (fun _ h9 => h9) rfl dX5_others_23 ?_
      refine lv_iconst (v := nI 3) hx hb dX5_others_26 (by decide) ?_
      refine lv_iload_n hx hb dX5_others_27 rfl (lv_at hl 3 rfl) ?_
      refine n_imul hx hb dX5_others_28 ?_
      refine lv_iload hx hb dX5_others_29 (lv_at hl 0 rfl) ?_
      refine n_iadd hx hb dX5_others_31 ?_
      refine r_iald M hW 39 0 ⟨rfl, by decide, by decide⟩ (n := 24) rfl (by omega) (by decide) dX5_others_32 ?_
      have b6_z : g 39 0 (3 * j + k) ≤ 9972 := hW.2.2.1.le 39 0 (3 * j + k) 9971 rfl
      refine lv_iload_n hx hb dX5_others_33 rfl (lv_at hl 4 rfl) ?_
      refine n_if_eq (tgt := 47) hx hb (Nat.lt_of_le_of_lt hb1 (by decide)) dX5_others_34 (by decide) (fun c7_z => ?_) (fun c7_z => ?_)
      · refine lv_aload_n hx hb dX5_others_47 rfl (lv_at hl 2 rfl) ?_
        refine r_get M hW 20 0 (lvM _) (v := .ref (ad 33 0)) rfl rfl i_X5 12 (by decide) k_47 (fun _ h9 => h9) rfl dX5_others_48 ?_
        refine lv_iload hx hb dX5_others_51 (lv_at hl 0 rfl) ?_
        refine r_iald M hW 33 0 ⟨rfl, by decide, by decide⟩ (n := 3) rfl (by omega) (by decide) dX5_others_53 ?_
        have b8_z : g 33 0 k ≤ 9972 := hW.2.2.1.le 33 0 k 9971 rfl
        refine n_icmp_eq (tgt := 61) hx hb (Nat.lt_of_le_of_lt b6_z (by decide)) (Nat.lt_of_le_of_lt b8_z (by decide)) dX5_others_54 (by decide) (fun c9_z => ?_) (fun c9_z => ?_)
        · refine lv_iconst (v := nI 0) hx hb dX5_others_61 (by decide) ?_
          refine n_iadd hx hb dX5_others_62 ?_
          refine lv_istore_n (lv' := [(3, .int (nI (a + 0))), (4, .int (nI (k))), (0, .ref (ad 20 0)), (1, .int (nI (j))), (2, .int (nI (b)))]) hx hb dX5_others_63 rfl hl (by decide) rfl (fun ls hl => ?_)
          refine lv_iinc (v := nI (k + 1)) (lv' := [(4, .int (nI (k + 1))), (3, .int (nI (a + 0))), (0, .ref (ad 20 0)), (1, .int (nI (j))), (2, .int (nI (b)))]) hx hb dX5_others_64 hl (k := 1) rfl (nI_add _ _) (by decide) rfl (fun ls hl => ?_)
          refine lv_goto (tgt := 5) hx hb dX5_others_67 (by decide) ?_
          exact ih (by omega) g (a + 0) _ _ _ ⟨rfl, (by show _ = sumN (fun q => if bit (g 37 0 j) q = 1 ∧ ¬ g 39 0 (3 * j + q) = bV g b q then 1 else 0) k + (if bit (g 37 0 j) k = 1 ∧ ¬ g 39 0 (3 * j + k) = bV g b k then 1 else 0); rw [show bV g b k = _ from if_pos c7_z]; rw [← hI, if_neg (fun h => h.2 c9_z)]; try rfl)⟩ hW hS (lv_sub hl [0, 1, 2, 3, 4] rfl)
        · refine lv_iconst (v := nI 1) hx hb dX5_others_57 (by decide) ?_
          refine lv_goto (tgt := 62) hx hb dX5_others_58 (by decide) ?_
          refine n_iadd hx hb dX5_others_62 ?_
          refine lv_istore_n (lv' := [(3, .int (nI (a + 1))), (4, .int (nI (k))), (0, .ref (ad 20 0)), (1, .int (nI (j))), (2, .int (nI (b)))]) hx hb dX5_others_63 rfl hl (by decide) rfl (fun ls hl => ?_)
          refine lv_iinc (v := nI (k + 1)) (lv' := [(4, .int (nI (k + 1))), (3, .int (nI (a + 1))), (0, .ref (ad 20 0)), (1, .int (nI (j))), (2, .int (nI (b)))]) hx hb dX5_others_64 hl (k := 1) rfl (nI_add _ _) (by decide) rfl (fun ls hl => ?_)
          refine lv_goto (tgt := 5) hx hb dX5_others_67 (by decide) ?_
          exact ih (by omega) g (a + 1) _ _ _ ⟨rfl, (by show _ = sumN (fun q => if bit (g 37 0 j) q = 1 ∧ ¬ g 39 0 (3 * j + q) = bV g b q then 1 else 0) k + (if bit (g 37 0 j) k = 1 ∧ ¬ g 39 0 (3 * j + k) = bV g b k then 1 else 0); rw [show bV g b k = _ from if_pos c7_z]; rw [← hI, if_pos ⟨c4_z, c9_z⟩]; try rfl)⟩ hW hS (lv_sub hl [0, 1, 2, 3, 4] rfl)
      · refine lv_aload_n hx hb dX5_others_37 rfl (lv_at hl 2 rfl) ?_
        refine r_get M hW 20 0 (lvM _) (v := .ref (ad 36 0)) rfl rfl i_X5 15 (by decide) k_56 (fun _ h9 => h9) rfl dX5_others_38 ?_
        refine lv_iload hx hb dX5_others_41 (lv_at hl 0 rfl) ?_
        refine r_iald M hW 36 0 ⟨rfl, by decide, by decide⟩ (n := 3) rfl (by omega) (by decide) dX5_others_43 ?_
        have b10_z : g 36 0 k ≤ 9972 := hW.2.2.1.le 36 0 k 9971 rfl
        refine lv_goto (tgt := 54) hx hb dX5_others_44 (by decide) ?_
        refine n_icmp_eq (tgt := 61) hx hb (Nat.lt_of_le_of_lt b6_z (by decide)) (Nat.lt_of_le_of_lt b10_z (by decide)) dX5_others_54 (by decide) (fun c11_z => ?_) (fun c11_z => ?_)
        · refine lv_iconst (v := nI 0) hx hb dX5_others_61 (by decide) ?_
          refine n_iadd hx hb dX5_others_62 ?_
          refine lv_istore_n (lv' := [(3, .int (nI (a + 0))), (4, .int (nI (k))), (0, .ref (ad 20 0)), (1, .int (nI (j))), (2, .int (nI (b)))]) hx hb dX5_others_63 rfl hl (by decide) rfl (fun ls hl => ?_)
          refine lv_iinc (v := nI (k + 1)) (lv' := [(4, .int (nI (k + 1))), (3, .int (nI (a + 0))), (0, .ref (ad 20 0)), (1, .int (nI (j))), (2, .int (nI (b)))]) hx hb dX5_others_64 hl (k := 1) rfl (nI_add _ _) (by decide) rfl (fun ls hl => ?_)
          refine lv_goto (tgt := 5) hx hb dX5_others_67 (by decide) ?_
          exact ih (by omega) g (a + 0) _ _ _ ⟨rfl, (by show _ = sumN (fun q => if bit (g 37 0 j) q = 1 ∧ ¬ g 39 0 (3 * j + q) = bV g b q then 1 else 0) k + (if bit (g 37 0 j) k = 1 ∧ ¬ g 39 0 (3 * j + k) = bV g b k then 1 else 0); rw [show bV g b k = _ from if_neg c7_z]; rw [← hI, if_neg (fun h => h.2 c11_z)]; try rfl)⟩ hW hS (lv_sub hl [0, 1, 2, 3, 4] rfl)
        · refine lv_iconst (v := nI 1) hx hb dX5_others_57 (by decide) ?_
          refine lv_goto (tgt := 62) hx hb dX5_others_58 (by decide) ?_
          refine n_iadd hx hb dX5_others_62 ?_
          refine lv_istore_n (lv' := [(3, .int (nI (a + 1))), (4, .int (nI (k))), (0, .ref (ad 20 0)), (1, .int (nI (j))), (2, .int (nI (b)))]) hx hb dX5_others_63 rfl hl (by decide) rfl (fun ls hl => ?_)
          refine lv_iinc (v := nI (k + 1)) (lv' := [(4, .int (nI (k + 1))), (3, .int (nI (a + 1))), (0, .ref (ad 20 0)), (1, .int (nI (j))), (2, .int (nI (b)))]) hx hb dX5_others_64 hl (k := 1) rfl (nI_add _ _) (by decide) rfl (fun ls hl => ?_)
          refine lv_goto (tgt := 5) hx hb dX5_others_67 (by decide) ?_
          exact ih (by omega) g (a + 1) _ _ _ ⟨rfl, (by show _ = sumN (fun q => if bit (g 37 0 j) q = 1 ∧ ¬ g 39 0 (3 * j + q) = bV g b q then 1 else 0) k + (if bit (g 37 0 j) k = 1 ∧ ¬ g 39 0 (3 * j + k) = bV g b k then 1 else 0); rw [show bV g b k = _ from if_neg c7_z]; rw [← hI, if_pos ⟨c4_z, c11_z⟩]; try rfl)⟩ hW hS (lv_sub hl [0, 1, 2, 3, 4] rfl)
    · refine n_if_eq (tgt := 61) hx hb (by decide) dX5_others_19 (by decide) (fun _ => ?_) (fun h9 => absurd h9 (by decide))
      refine lv_iconst (v := nI 0) hx hb dX5_others_61 (by decide) ?_
      refine n_iadd hx hb dX5_others_62 ?_
      refine lv_istore_n (lv' := [(3, .int (nI (a + 0))), (4, .int (nI (k))), (0, .ref (ad 20 0)), (1, .int (nI (j))), (2, .int (nI (b)))]) hx hb dX5_others_63 rfl hl (by decide) rfl (fun ls hl => ?_)
      refine lv_iinc (v := nI (k + 1)) (lv' := [(4, .int (nI (k + 1))), (3, .int (nI (a + 0))), (0, .ref (ad 20 0)), (1, .int (nI (j))), (2, .int (nI (b)))]) hx hb dX5_others_64 hl (k := 1) rfl (nI_add _ _) (by decide) rfl (fun ls hl => ?_)
      refine lv_goto (tgt := 5) hx hb dX5_others_67 (by decide) ?_
      exact ih (by omega) g (a + 0) _ _ _ ⟨rfl, (by show _ = sumN (fun q => if bit (g 37 0 j) q = 1 ∧ ¬ g 39 0 (3 * j + q) = bV g b q then 1 else 0) k + (if bit (g 37 0 j) k = 1 ∧ ¬ g 39 0 (3 * j + k) = bV g b k then 1 else 0); rw [← hI, if_neg (fun h => c4_z h.1)]; try rfl)⟩ hW hS (lv_sub hl [0, 1, 2, 3, 4] rfl)

set_option maxHeartbeats 4000000 in
set_option maxRecDepth 100000 in
theorem c_X5_isOpen (l : Launch) (D : va_G) (Z : Nat → Nat) (N0 : Nat) (g : T3) (ad : T2) (j : Nat) (hj8 : j < 8) : Met l yX5_isOpen wsX5_isOpen ({ frames := 2, cells := 0, slots := 0, locals := 140 } : Room) (PC D Z N0 g ad [.ref (ad 20 0), .int (nI (j))]) (QI D Z N0 ad (fun (r : Int32) (g1 : T3) => Fr g g1 ∧ (bP r (mO g j) ∧ g = g1))) 0 0 (AA N0) := by
  refine Met.ofW (cc := cX5_isOpen) (maxL := 2) (ret := (some .boolean)) (by decide) rfl ?_
  intro pP eP sP mP args below meth cP s₁ B hmlP hvP
  obtain ⟨rfl, hW, hC⟩ := hvP
  have hx := B.exec
  have hb := B.bytes
  have hr := B.returns
  have hts := atoms_spec (ws := wsX5_isOpen) B.pre
  have hown : sP.vm.findClass RX5 = some mP.cls := findClass_of_methodNamed B.named
  have hlocks := B.notSynchronized
  have i_X5 : ∀ w ∈ wsX50, w ∈ wsX5_isOpen := (fun _ h => List.mem_cons_of_mem _ (List.mem_append_left _ (List.mem_append_right _ h)))
  have k_68 : Cond.fieldLink RX5 68 "StartChainModel" "state" "C" ∈ wsX5_isOpen := by decide +kernel
  have M : Mx pP mP cP cX5_isOpen 2 sP ([.ref (ad 20 0), .int (nI (j))] : List Value).toArray wsX5_isOpen RX5 D Z N0 := ⟨⟨hx, hb, hmlP, hown, hts⟩, hC⟩
  have hf : Fr g g := Fr.rf g
  have hS : va_S (AA N0) sP.heap sP.heap [] := va_S.rf
  have hl := lv_entry ([.ref (ad 20 0), .int (nI (j))]) (n := 2) (Nat.le_of_ble_eq_true rfl)
  rw [lg_entry_eq]
  generalize (lg_sl ([.ref (ad 20 0), .int (nI (j))]) ++ List.replicate (2 - (lg_sl ([.ref (ad 20 0), .int (nI (j))])).length) Slot.unset).toArray = ls at hl ⊢
  have hl : lv_has ls 2 [(0, .ref (ad 20 0)), (1, .int (nI (j)))] := hl
  refine lv_aload_n hx hb dX5_isOpen_0 rfl (lv_at hl 0 rfl) ?_
  have b1_z : g 20 0 19 ≤ 127 := hW.2.2.1.le 20 0 19 126 rfl
  refine r_get M hW 20 0 (lvM _) (v := .int (nI (g 20 0 19))) rfl rfl i_X5 19 (by decide) k_68 (fun _ h9 => h9) rfl dX5_isOpen_1 ?_
  refine lv_bipush (v := nI 114) hx hb dX5_isOpen_4 (by decide) ?_
  refine n_icmp_ne (tgt := 22) hx hb (Nat.lt_of_le_of_lt b1_z (by decide)) (by decide) dX5_isOpen_6 (by decide) (fun c2_z => ?_) (fun c2_z => ?_)
  · refine lv_iconst (v := nI 0) hx hb dX5_isOpen_22 (by decide) ?_
    -- path 1
    exact W.zret (v := nI (0)) (ty := .boolean) hx hb hr (nar_b (show 0 ≤ 1 by decide)) (fun t ht hW9 => ⟨⟨nI (0), g, rfl, ⟨hf, ⟨Or.inr ⟨rfl, fun h => c2_z h.1⟩, rfl⟩⟩, (show Wd D Z N0 g ad t.heap by rw [ht]; exact hW)⟩, hS.F ht⟩) hS.2.2 dX5_isOpen_23
  · refine lv_aload_n hx hb dX5_isOpen_9 rfl (lv_at hl 0 rfl) ?_
    refine lv_iload_n hx hb dX5_isOpen_10 rfl (lv_at hl 1 rfl) ?_
    refine lv_iconst (v := nI 0) hx hb dX5_isOpen_11 (by decide) ?_
    refine k_ci (k_rV (As := [.int (nI (j)), .int (nI (0))]) (rest := []) M hW hS (c_X5_others l D Z N0 g ad j 0 hj8 (show 0 ≤ 1 by decide)) (cwV 2 hts gX5_isOpen_X5_others rfl rfl rfl (by decide +kernel) ⟨Nat.le_of_ble_eq_true rfl, Nat.le_of_ble_eq_true rfl⟩) (r_recv M.2 hW 20 0 (lvM _) rfl rfl) rfl hl.1 rfl (Nat.le_of_ble_eq_true rfl) dX5_isOpen_12 ⟨Nat.le_of_ble_eq_true rfl, Nat.le_of_ble_eq_true rfl⟩) hS (fun r4_z g3_z H locs hp hW hS => ?_)
    obtain ⟨hf1, hp⟩ := hp
    have hf : Fr g g3_z := hf.trans hf1
    obtain ⟨rfl, hg⟩ := hp
    subst hg
    refine n_if_ne (tgt := 22) hx hb (Nat.lt_of_le_of_lt (mOt_le g j 0) (by decide)) dX5_isOpen_15 (by decide) (fun c5_z => ?_) (fun c5_z => ?_)
    · refine lv_iconst (v := nI 0) hx hb dX5_isOpen_22 (by decide) ?_
      -- path 2
      exact W.zret (v := nI (0)) (ty := .boolean) hx hb hr (nar_b (show 0 ≤ 1 by decide)) (fun t ht hW9 => ⟨⟨nI (0), g, rfl, ⟨hf, ⟨Or.inr ⟨rfl, fun h => c5_z h.2⟩, rfl⟩⟩, (show Wd D Z N0 g ad t.heap by rw [ht]; exact hW)⟩, hS.F ht⟩) hS.2.2 dX5_isOpen_23
    · refine lv_iconst (v := nI 1) hx hb dX5_isOpen_18 (by decide) ?_
      refine lv_goto (tgt := 23) hx hb dX5_isOpen_19 (by decide) ?_
      -- path 3
      exact W.zret (v := nI (1)) (ty := .boolean) hx hb hr (nar_b (show 1 ≤ 1 by decide)) (fun t ht hW9 => ⟨⟨nI (1), g, rfl, ⟨hf, ⟨Or.inl ⟨rfl, c2_z, c5_z⟩, rfl⟩⟩, (show Wd D Z N0 g ad t.heap by rw [ht]; exact hW)⟩, hS.F ht⟩) hS.2.2 dX5_isOpen_23

set_option maxHeartbeats 4000000 in
set_option maxRecDepth 100000 in
theorem c_X5_agreeing (l : Launch) (D : va_G) (Z : Nat → Nat) (N0 : Nat) (g : T3) (ad : T2) : Met l yX5_agreeing wsX5_agreeing ({ frames := 0, cells := 0, slots := 0, locals := 60 } : Room) (PC D Z N0 g ad [.ref (ad 20 0)]) (QI D Z N0 ad (fun (r : Int32) (g1 : T3) => Fr g g1 ∧ (r = nI (mAg g) ∧ g = g1))) 0 0 (AA N0) := by
  refine Met.ofW (cc := cX5_agreeing) (maxL := 3) (ret := (some .int)) (by decide) rfl ?_
  intro pP eP sP mP args below meth cP s₁ B hmlP hvP
  obtain ⟨rfl, hW, hC⟩ := hvP
  have hx := B.exec
  have hb := B.bytes
  have hr := B.returns
  have hts := atoms_spec (ws := wsX5_agreeing) B.pre
  have hown : sP.vm.findClass RX5 = some mP.cls := findClass_of_methodNamed B.named
  have hlocks := B.notSynchronized
  have i_X5 : ∀ w ∈ wsX50, w ∈ wsX5_agreeing := (fun _ h => List.mem_cons_of_mem _ (List.mem_append_left _ (List.mem_append_right _ h)))
  have k_16 : Cond.fieldLink RX5 16 "StartChainModel" "agree" "[Z" ∈ wsX5_agreeing := by decide +kernel
  have M : Mx pP mP cP cX5_agreeing 3 sP ([.ref (ad 20 0)] : List Value).toArray wsX5_agreeing RX5 D Z N0 := ⟨⟨hx, hb, hmlP, hown, hts⟩, hC⟩
  have hf : Fr g g := Fr.rf g
  have hS : va_S (AA N0) sP.heap sP.heap [] := va_S.rf
  have hl := lv_entry ([.ref (ad 20 0)]) (n := 3) (Nat.le_of_ble_eq_true rfl)
  rw [lg_entry_eq]
  generalize (lg_sl ([.ref (ad 20 0)]) ++ List.replicate (3 - (lg_sl ([.ref (ad 20 0)])).length) Slot.unset).toArray = ls at hl ⊢
  have hl : lv_has ls 3 [(0, .ref (ad 20 0))] := hl
  refine lv_iconst (v := nI 0) hx hb dX5_agreeing_0 (by decide) ?_
  refine lv_istore_n (lv' := [(1, .int (nI (0))), (0, .ref (ad 20 0))]) hx hb dX5_agreeing_1 rfl hl (by decide) rfl (fun ls hl => ?_)
  refine lv_iconst (v := nI 0) hx hb dX5_agreeing_2 (by decide) ?_
  refine lv_istore_n (lv' := [(2, .int (nI (0))), (1, .int (nI (0))), (0, .ref (ad 20 0))]) hx hb dX5_agreeing_3 rfl hl (by decide) rfl (fun ls hl => ?_)
  refine k_loop (D := D) (Z := Z) (N0 := N0) (ad := ad) (g0 := g) (σ := Nat) (a0 := 0) (5) 3 (0) (fun k gk a => g = gk ∧ (a = sumN (fun q => if g 23 0 q = 0 then 0 else 1) k)) (fun k a => [(2, .int (nI (k))), (1, .int (nI (a))), (0, .ref (ad 20 0))]) (by decide) ⟨rfl, rfl⟩ hW hS (lv_sub hl [0, 1, 2] rfl) (fun n k gk a H locs ls hkn hI hW hS hl ih => ?_)
  obtain ⟨hg, hI⟩ := hI
  subst hg
  refine lv_iload_n hx hb dX5_agreeing_4 rfl (lv_at hl 0 rfl) ?_
  refine lv_iconst (v := nI 5) hx hb dX5_agreeing_5 (by decide) ?_
  refine n_icmp_ge (tgt := 32) hx hb (by omega) (by decide) dX5_agreeing_6 (by decide) (fun c1_z => ?_) (fun c1_z => ?_)
  · refine lv_iload_n hx hb dX5_agreeing_32 rfl (lv_at hl 1 rfl) ?_
    -- path 1
    exact W.iret (v := nI (a)) hx hb hr (fun t ht hW9 => ⟨⟨nI (a), g, rfl, ⟨hf, ⟨congrArg nI (by rw [hI, show k = 5 by omega]; rfl), rfl⟩⟩, (show Wd D Z N0 g ad t.heap by rw [ht]; exact hW)⟩, hS.F ht⟩) hS.2.2 dX5_agreeing_33
  · refine lv_iload_n hx hb dX5_agreeing_9 rfl (lv_at hl 1 rfl) ?_
    refine lv_aload_n hx hb dX5_agreeing_10 rfl (lv_at hl 2 rfl) ?_
    refine r_get M hW 20 0 (lvM _) (v := .ref (ad 23 0)) rfl rfl i_X5 2 (by decide) k_16 (fun _ h9 => h9) rfl dX5_agreeing_11 ?_
    refine lv_iload_n hx hb dX5_agreeing_14 rfl (lv_at hl 0 rfl) ?_
    refine r_zald M hW 23 0 ⟨rfl, by decide, by decide⟩ (n := 5) rfl (by omega) (by decide) dX5_agreeing_15 ?_
    have b2_z : g 23 0 k ≤ 1 := hW.2.2.1.le 23 0 k 0 rfl
    refine n_if_eq (tgt := 23) hx hb (Nat.lt_of_le_of_lt b2_z (by decide)) dX5_agreeing_16 (by decide) (fun c3_z => ?_) (fun c3_z => ?_)
    · refine lv_iconst (v := nI 0) hx hb dX5_agreeing_23 (by decide) ?_
      refine n_iadd hx hb dX5_agreeing_24 ?_
      refine lv_istore_n (lv' := [(1, .int (nI (a + 0))), (2, .int (nI (k))), (0, .ref (ad 20 0))]) hx hb dX5_agreeing_25 rfl hl (by decide) rfl (fun ls hl => ?_)
      refine lv_iinc (v := nI (k + 1)) (lv' := [(2, .int (nI (k + 1))), (1, .int (nI (a + 0))), (0, .ref (ad 20 0))]) hx hb dX5_agreeing_26 hl (k := 1) rfl (nI_add _ _) (by decide) rfl (fun ls hl => ?_)
      refine lv_goto (tgt := 4) hx hb dX5_agreeing_29 (by decide) ?_
      exact ih (by omega) g (a + 0) _ _ _ ⟨rfl, (by show _ = sumN (fun q => if g 23 0 q = 0 then 0 else 1) k + (if g 23 0 k = 0 then 0 else 1); rw [← hI, if_pos c3_z]; try rfl)⟩ hW hS (lv_sub hl [0, 1, 2] rfl)
    · refine lv_iconst (v := nI 1) hx hb dX5_agreeing_19 (by decide) ?_
      refine lv_goto (tgt := 24) hx hb dX5_agreeing_20 (by decide) ?_
      refine n_iadd hx hb dX5_agreeing_24 ?_
      refine lv_istore_n (lv' := [(1, .int (nI (a + 1))), (2, .int (nI (k))), (0, .ref (ad 20 0))]) hx hb dX5_agreeing_25 rfl hl (by decide) rfl (fun ls hl => ?_)
      refine lv_iinc (v := nI (k + 1)) (lv' := [(2, .int (nI (k + 1))), (1, .int (nI (a + 1))), (0, .ref (ad 20 0))]) hx hb dX5_agreeing_26 hl (k := 1) rfl (nI_add _ _) (by decide) rfl (fun ls hl => ?_)
      refine lv_goto (tgt := 4) hx hb dX5_agreeing_29 (by decide) ?_
      exact ih (by omega) g (a + 1) _ _ _ ⟨rfl, (by show _ = sumN (fun q => if g 23 0 q = 0 then 0 else 1) k + (if g 23 0 k = 0 then 0 else 1); rw [← hI, if_neg c3_z]; try rfl)⟩ hW hS (lv_sub hl [0, 1, 2] rfl)

set_option maxHeartbeats 4000000 in
set_option maxRecDepth 100000 in
theorem c_X5_setAgreed (l : Launch) (D : va_G) (Z : Nat → Nat) (N0 : Nat) (g : T3) (ad : T2) (x : Int32) (b : Nat) (hb1 : b ≤ 1) : Met l yX5_setAgreed wsX5_setAgreed ({ frames := 2, cells := 0, slots := 0, locals := 140 } : Room) (PC D Z N0 g ad [.ref (ad 20 0), .int (x), .int (nI (b))]) (QI D Z N0 ad (fun (r : Int32) (g1 : T3) => Fr g g1 ∧ ((¬ Ix 5 x ∧ r = nI 0 ∧ g1 = up g 20 0 20 1) ∨ (∃ i, i < 5 ∧ x = nI i ∧ r = nI (mAg (up (up g 20 0 20 0) 23 0 i b)) ∧ g1 = up (up g 20 0 20 0) 23 0 i b)))) 0 0 (AA N0) := by
  refine Met.ofW (cc := cX5_setAgreed) (maxL := 3) (ret := (some .int)) (by decide) rfl ?_
  intro pP eP sP mP args below meth cP s₁ B hmlP hvP
  obtain ⟨rfl, hW, hC⟩ := hvP
  have hx := B.exec
  have hb := B.bytes
  have hr := B.returns
  have hts := atoms_spec (ws := wsX5_setAgreed) B.pre
  have hown : sP.vm.findClass RX5 = some mP.cls := findClass_of_methodNamed B.named
  have hlocks := B.notSynchronized
  have i_X5 : ∀ w ∈ wsX50, w ∈ wsX5_setAgreed := (fun _ h => List.mem_cons_of_mem _ (List.mem_append_left _ (List.mem_append_right _ h)))
  have k_16 : Cond.fieldLink RX5 16 "StartChainModel" "agree" "[Z" ∈ wsX5_setAgreed := by decide +kernel
  have M : Mx pP mP cP cX5_setAgreed 3 sP ([.ref (ad 20 0), .int (x), .int (nI (b))] : List Value).toArray wsX5_setAgreed RX5 D Z N0 := ⟨⟨hx, hb, hmlP, hown, hts⟩, hC⟩
  have hf : Fr g g := Fr.rf g
  have hS : va_S (AA N0) sP.heap sP.heap [] := va_S.rf
  have hl := lv_entry ([.ref (ad 20 0), .int (x), .int (nI (b))]) (n := 3) (Nat.le_of_ble_eq_true rfl)
  rw [lg_entry_eq]
  generalize (lg_sl ([.ref (ad 20 0), .int (x), .int (nI (b))]) ++ List.replicate (3 - (lg_sl ([.ref (ad 20 0), .int (x), .int (nI (b))])).length) Slot.unset).toArray = ls at hl ⊢
  have hl : lv_has ls 3 [(0, .ref (ad 20 0)), (1, .int (x)), (2, .int (nI (b)))] := hl
  refine lv_aload_n hx hb dX5_setAgreed_0 rfl (lv_at hl 0 rfl) ?_
  refine lv_iload_n hx hb dX5_setAgreed_1 rfl (lv_at hl 1 rfl) ?_
  refine lv_iconst (v := nI 0) hx hb dX5_setAgreed_2 (by decide) ?_
  refine lv_iconst (v := nI 4) hx hb dX5_setAgreed_3 (by decide) ?_
  refine k_ci (k_rS (As := [.int (x), .int (nI (0)), .int (nI (4))]) (rest := [.ref (ad 20 0)]) M hW hS (c_X5_in l D Z N0 g ad (x) (nI (0)) (nI (4))) (va_cwS 3 hts gX5_setAgreed_X5_in rfl rfl rfl (by decide +kernel) ⟨Nat.le_of_ble_eq_true rfl, Nat.le_of_ble_eq_true rfl⟩) rfl hl.1 rfl (Nat.le_of_ble_eq_true rfl) dX5_setAgreed_4 ⟨Nat.le_of_ble_eq_true rfl, Nat.le_of_ble_eq_true rfl⟩) hS (fun r2_z g1_z H locs hp hW hS => ?_)
  obtain ⟨hf1, hp⟩ := hp
  have hf : Fr g g1_z := hf.trans hf1
  obtain ⟨hp, hg⟩ := hp
  subst hg
  rcases hp with ⟨rfl, c3_z⟩ | ⟨rfl, c3_z⟩
  · obtain ⟨i, hi, rfl⟩ := (ix0_iff (n := 4) (by decide)).mp c3_z
    refine k_ci (k_rV (As := [.int (nI (1))]) (rest := []) M hW hS (c_X5_checked l D Z N0 g ad 1 (show 1 ≤ 1 by decide)) (cwV 1 hts gX5_setAgreed_X5_checked rfl rfl rfl (by decide +kernel) ⟨Nat.le_of_ble_eq_true rfl, Nat.le_of_ble_eq_true rfl⟩) (r_recv M.2 hW 20 0 (lvM _) rfl rfl) rfl hl.1 rfl (Nat.le_of_ble_eq_true rfl) dX5_setAgreed_7 ⟨Nat.le_of_ble_eq_true rfl, Nat.le_of_ble_eq_true rfl⟩) hS (fun r5_z g4_z H locs hp hW hS => ?_)
    obtain ⟨hf1, hp⟩ := hp
    have hf : Fr g g4_z := hf.trans hf1
    obtain ⟨hr9, eg4_z⟩ := hp
    have hr9 : r5_z = nI 0 := hr9
    subst hr9
    have eg4_z : g4_z = up g 20 0 20 0 := eg4_z
    refine n_if_le (tgt := 15) hx hb (by decide) dX5_setAgreed_10 (by decide) (fun _ => ?_) (fun h9 => absurd h9 (by decide))
    refine lv_aload_n hx hb dX5_setAgreed_15 rfl (lv_at hl 0 rfl) ?_
    refine r_get M hW 20 0 (lvM _) (v := .ref (ad 23 0)) rfl rfl i_X5 2 (by decide) k_16 (fun _ h9 => h9) rfl dX5_setAgreed_16 ?_
    refine lv_iload_n hx hb dX5_setAgreed_19 rfl (lv_at hl 1 rfl) ?_
    refine lv_iload_n hx hb dX5_setAgreed_20 rfl (lv_at hl 2 rfl) ?_
    refine r_zst M hW hS 23 0 ⟨rfl, by decide, by decide⟩ (n := 5) (fun _ => rfl) (Nat.lt_of_le_of_lt (Nat.le_of_lt_succ hi) (by decide)) (by decide) rfl hb1 (Or.inr hb1) dX5_setAgreed_21 (fun H locs hW hS => ?_)
    obtain ⟨g7_z, eg7_z⟩ : ∃ z, z = up g4_z 23 0 i b := ⟨_, rfl⟩
    rw [← eg7_z] at hW
    have hf : Fr g g7_z := by rw [eg7_z]; exact hf.up rfl
    refine lv_aload_n hx hb dX5_setAgreed_22 rfl (lv_at hl 0 rfl) ?_
    refine k_ci (k_rV (As := []) (rest := []) M hW hS (c_X5_agreeing l D Z N0 g7_z ad) (cwV 0 hts gX5_setAgreed_X5_agreeing rfl rfl rfl (by decide +kernel) ⟨Nat.le_of_ble_eq_true rfl, Nat.le_of_ble_eq_true rfl⟩) (r_recv M.2 hW 20 0 (lvM _) rfl rfl) rfl hl.1 rfl (Nat.le_of_ble_eq_true rfl) dX5_setAgreed_23 ⟨Nat.le_of_ble_eq_true rfl, Nat.le_of_ble_eq_true rfl⟩) hS (fun r9_z g8_z H locs hp hW hS => ?_)
    obtain ⟨hf1, hp⟩ := hp
    have hf : Fr g g8_z := hf.trans hf1
    obtain ⟨rfl, hg⟩ := hp
    subst hg
    -- path 1
    exact W.iret (v := nI (mAg g7_z)) hx hb hr (fun t ht hW9 => ⟨⟨nI (mAg g7_z), g7_z, rfl, ⟨hf, (by subst eg7_z eg4_z; exact Or.inr ⟨i, hi, rfl, rfl, rfl⟩)⟩, (show Wd D Z N0 g7_z ad t.heap by rw [ht]; exact hW)⟩, hS.F ht⟩) hS.2.2 dX5_setAgreed_26
  · refine k_ci (k_rV (As := [.int (nI (0))]) (rest := []) M hW hS (c_X5_checked l D Z N0 g ad 0 (show 0 ≤ 1 by decide)) (cwV 1 hts gX5_setAgreed_X5_checked rfl rfl rfl (by decide +kernel) ⟨Nat.le_of_ble_eq_true rfl, Nat.le_of_ble_eq_true rfl⟩) (r_recv M.2 hW 20 0 (lvM _) rfl rfl) rfl hl.1 rfl (Nat.le_of_ble_eq_true rfl) dX5_setAgreed_7 ⟨Nat.le_of_ble_eq_true rfl, Nat.le_of_ble_eq_true rfl⟩) hS (fun r11_z g10_z H locs hp hW hS => ?_)
    obtain ⟨hf1, hp⟩ := hp
    have hf : Fr g g10_z := hf.trans hf1
    obtain ⟨hr9, eg10_z⟩ := hp
    have hr9 : r11_z = nI 1 := hr9
    subst hr9
    have eg10_z : g10_z = up g 20 0 20 1 := eg10_z
    refine n_if_le (tgt := 15) hx hb (by decide) dX5_setAgreed_10 (by decide) (fun h9 => absurd h9 (by decide)) (fun _ => ?_)
    refine lv_iconst (v := nI 0) hx hb dX5_setAgreed_13 (by decide) ?_
    -- path 2
    exact W.iret (v := nI (0)) hx hb hr (fun t ht hW9 => ⟨⟨nI (0), g10_z, rfl, ⟨hf, (by subst eg10_z; exact Or.inl ⟨fun h => c3_z ((ix0_iff (n := 4) (by decide)).mpr h), rfl, rfl⟩)⟩, (show Wd D Z N0 g10_z ad t.heap by rw [ht]; exact hW)⟩, hS.F ht⟩) hS.2.2 dX5_setAgreed_14

set_option maxHeartbeats 4000000 in
set_option maxRecDepth 100000 in
theorem c_X5_stop (l : Launch) (D : va_G) (Z : Nat → Nat) (N0 : Nat) (g : T3) (ad : T2) : Met l yX5_stop wsX5_stop ({ frames := 1, cells := 0, slots := 0, locals := 100 } : Room) (PC D Z N0 g ad [.ref (ad 20 0)]) (QI D Z N0 ad (fun (r : Int32) (g1 : T3) => Fr g g1 ∧ ((g 20 0 19 = 111 ∧ r = nI 0 ∧ g1 = up g 20 0 20 1) ∨ (¬ g 20 0 19 = 111 ∧ r = nI (g 20 0 24) ∧ g1 = up (up (up g 20 0 20 0) 20 0 19 111) 20 0 24 0)))) 0 0 (AA N0) := by
  refine Met.ofW (cc := cX5_stop) (maxL := 2) (ret := (some .int)) (by decide) rfl ?_
  intro pP eP sP mP args below meth cP s₁ B hmlP hvP
  obtain ⟨rfl, hW, hC⟩ := hvP
  have hx := B.exec
  have hb := B.bytes
  have hr := B.returns
  have hts := atoms_spec (ws := wsX5_stop) B.pre
  have hown : sP.vm.findClass RX5 = some mP.cls := findClass_of_methodNamed B.named
  have hlocks := B.notSynchronized
  have i_X5 : ∀ w ∈ wsX50, w ∈ wsX5_stop := (fun _ h => List.mem_cons_of_mem _ (List.mem_append_right _ h))
  have k_68 : Cond.fieldLink RX5 68 "StartChainModel" "state" "C" ∈ wsX5_stop := by decide +kernel
  have k_85 : Cond.fieldLink RX5 85 "StartChainModel" "running" "I" ∈ wsX5_stop := by decide +kernel
  have M : Mx pP mP cP cX5_stop 2 sP ([.ref (ad 20 0)] : List Value).toArray wsX5_stop RX5 D Z N0 := ⟨⟨hx, hb, hmlP, hown, hts⟩, hC⟩
  have hf : Fr g g := Fr.rf g
  have hS : va_S (AA N0) sP.heap sP.heap [] := va_S.rf
  have hl := lv_entry ([.ref (ad 20 0)]) (n := 2) (Nat.le_of_ble_eq_true rfl)
  rw [lg_entry_eq]
  generalize (lg_sl ([.ref (ad 20 0)]) ++ List.replicate (2 - (lg_sl ([.ref (ad 20 0)])).length) Slot.unset).toArray = ls at hl ⊢
  have hl : lv_has ls 2 [(0, .ref (ad 20 0))] := hl
  refine lv_aload_n hx hb dX5_stop_0 rfl (lv_at hl 0 rfl) ?_
  refine lv_aload_n hx hb dX5_stop_1 rfl (lv_at hl 0 rfl) ?_
  have b1_z : g 20 0 19 ≤ 127 := hW.2.2.1.le 20 0 19 126 rfl
  refine r_get M hW 20 0 (lvM _) (v := .int (nI (g 20 0 19))) rfl rfl i_X5 19 (by decide) k_68 (fun _ h9 => h9) rfl dX5_stop_2 ?_
  refine lv_bipush (v := nI 111) hx hb dX5_stop_5 (by decide) ?_
  refine n_icmp_eq (tgt := 14) hx hb (Nat.lt_of_le_of_lt b1_z (by decide)) (by decide) dX5_stop_7 (by decide) (fun c2_z => ?_) (fun c2_z => ?_)
  · refine lv_iconst (v := nI 0) hx hb dX5_stop_14 (by decide) ?_
    refine k_ci (k_rV (As := [.int (nI (0))]) (rest := []) M hW hS (c_X5_checked l D Z N0 g ad 0 (show 0 ≤ 1 by decide)) (cwV 1 hts gX5_stop_X5_checked rfl rfl rfl (by decide +kernel) ⟨Nat.le_of_ble_eq_true rfl, Nat.le_of_ble_eq_true rfl⟩) (r_recv M.2 hW 20 0 (lvM _) rfl rfl) rfl hl.1 rfl (Nat.le_of_ble_eq_true rfl) dX5_stop_15 ⟨Nat.le_of_ble_eq_true rfl, Nat.le_of_ble_eq_true rfl⟩) hS (fun r4_z g3_z H locs hp hW hS => ?_)
    obtain ⟨hf1, hp⟩ := hp
    have hf : Fr g g3_z := hf.trans hf1
    obtain ⟨hr9, eg3_z⟩ := hp
    have hr9 : r4_z = nI 1 := hr9
    subst hr9
    have eg3_z : g3_z = up g 20 0 20 1 := eg3_z
    refine n_if_le (tgt := 23) hx hb (by decide) dX5_stop_18 (by decide) (fun h9 => absurd h9 (by decide)) (fun _ => ?_)
    refine lv_iconst (v := nI 0) hx hb dX5_stop_21 (by decide) ?_
    -- path 1
    exact W.iret (v := nI (0)) hx hb hr (fun t ht hW9 => ⟨⟨nI (0), g3_z, rfl, ⟨hf, (by subst eg3_z; exact Or.inl ⟨c2_z, rfl, rfl⟩)⟩, (show Wd D Z N0 g3_z ad t.heap by rw [ht]; exact hW)⟩, hS.F ht⟩) hS.2.2 dX5_stop_22
  · refine lv_iconst (v := nI 1) hx hb dX5_stop_10 (by decide) ?_
    refine lv_goto (tgt := 15) hx hb dX5_stop_11 (by decide) ?_
    refine k_ci (k_rV (As := [.int (nI (1))]) (rest := []) M hW hS (c_X5_checked l D Z N0 g ad 1 (show 1 ≤ 1 by decide)) (cwV 1 hts gX5_stop_X5_checked rfl rfl rfl (by decide +kernel) ⟨Nat.le_of_ble_eq_true rfl, Nat.le_of_ble_eq_true rfl⟩) (r_recv M.2 hW 20 0 (lvM _) rfl rfl) rfl hl.1 rfl (Nat.le_of_ble_eq_true rfl) dX5_stop_15 ⟨Nat.le_of_ble_eq_true rfl, Nat.le_of_ble_eq_true rfl⟩) hS (fun r7_z g6_z H locs hp hW hS => ?_)
    obtain ⟨hf1, hp⟩ := hp
    have hf : Fr g g6_z := hf.trans hf1
    obtain ⟨hr9, eg6_z⟩ := hp
    have hr9 : r7_z = nI 0 := hr9
    subst hr9
    have eg6_z : g6_z = up g 20 0 20 0 := eg6_z
    refine n_if_le (tgt := 23) hx hb (by decide) dX5_stop_18 (by decide) (fun _ => ?_) (fun h9 => absurd h9 (by decide))
    refine lv_aload_n hx hb dX5_stop_23 rfl (lv_at hl 0 rfl) ?_
    have q9_z : g6_z 20 0 24 = g 20 0 24 := by rw [eg6_z]; first | rfl | simp [up_at]
    have b10_z : g6_z 20 0 24 ≤ 6 := hW.2.2.1.le 20 0 24 5 rfl
    refine r_get M hW 20 0 (lvM _) (v := .int (nI (g6_z 20 0 24))) rfl rfl i_X5 24 (by decide) k_85 (fun _ h9 => h9) rfl dX5_stop_24 ?_
    refine lv_istore_n (lv' := [(1, .int (nI (g6_z 20 0 24))), (0, .ref (ad 20 0))]) hx hb dX5_stop_27 rfl hl (by decide) rfl (fun ls hl => ?_)
    refine lv_aload_n hx hb dX5_stop_28 rfl (lv_at hl 1 rfl) ?_
    refine lv_bipush (v := nI 111) hx hb dX5_stop_29 (by decide) ?_
    refine r_put M hW hS 20 0 (lvM _) rfl rfl i_X5 tyX5 tyX5_ok nmX5 19 (by decide) k_68 (fun _ h9 => h9) rfl (ty := .char) (by decide +kernel) (by decide) rfl (Nat.le_of_ble_eq_true rfl) rfl rfl (Or.inr (show 111 ≤ 127 by decide)) dX5_stop_31 (fun H locs hW hS => ?_)
    obtain ⟨g11_z, eg11_z⟩ : ∃ z, z = up g6_z 20 0 19 111 := ⟨_, rfl⟩
    rw [← eg11_z] at hW
    have hf : Fr g g11_z := by rw [eg11_z]; exact hf.up rfl
    refine lv_aload_n hx hb dX5_stop_34 rfl (lv_at hl 1 rfl) ?_
    refine lv_iconst (v := nI 0) hx hb dX5_stop_35 (by decide) ?_
    refine r_put M hW hS 20 0 (lvM _) rfl rfl i_X5 tyX5 tyX5_ok nmX5 24 (by decide) k_85 (fun _ h9 => h9) rfl (ty := .int) (by decide +kernel) rfl rfl (Nat.le_of_ble_eq_true rfl) rfl rfl (Or.inr (show 0 ≤ 6 by decide)) dX5_stop_36 (fun H locs hW hS => ?_)
    obtain ⟨g12_z, eg12_z⟩ : ∃ z, z = up g11_z 20 0 24 0 := ⟨_, rfl⟩
    rw [← eg12_z] at hW
    have hf : Fr g g12_z := by rw [eg12_z]; exact hf.up rfl
    refine lv_iload_n hx hb dX5_stop_39 rfl (lv_at hl 0 rfl) ?_
    -- path 2
    exact W.iret (v := nI (g6_z 20 0 24)) hx hb hr (fun t ht hW9 => ⟨⟨nI (g6_z 20 0 24), g12_z, rfl, ⟨hf, (by subst eg12_z eg11_z eg6_z; exact Or.inr ⟨c2_z, rfl, rfl⟩)⟩, (show Wd D Z N0 g12_z ad t.heap by rw [ht]; exact hW)⟩, hS.F ht⟩) hS.2.2 dX5_stop_40

set_option maxHeartbeats 4000000 in
set_option maxRecDepth 100000 in
theorem c_X5_state (l : Launch) (D : va_G) (Z : Nat → Nat) (N0 : Nat) (g : T3) (ad : T2) : Met l yX5_state wsX5_state ({ frames := 0, cells := 0, slots := 0, locals := 60 } : Room) (PC D Z N0 g ad [.ref (ad 20 0)]) (QI D Z N0 ad (fun (r : Int32) (g1 : T3) => Fr g g1 ∧ (r = nI (g 20 0 19) ∧ g1 = up g 20 0 20 0))) 0 0 (AA N0) := by
  refine Met.ofW (cc := cX5_state) (maxL := 1) (ret := (some .char)) (by decide) rfl ?_
  intro pP eP sP mP args below meth cP s₁ B hmlP hvP
  obtain ⟨rfl, hW, hC⟩ := hvP
  have hx := B.exec
  have hb := B.bytes
  have hr := B.returns
  have hts := atoms_spec (ws := wsX5_state) B.pre
  have hown : sP.vm.findClass RX5 = some mP.cls := findClass_of_methodNamed B.named
  have hlocks := B.notSynchronized
  have i_X5 : ∀ w ∈ wsX50, w ∈ wsX5_state := (fun _ h => List.mem_cons_of_mem _ (List.mem_append_right _ h))
  have k_72 : Cond.fieldLink RX5 72 "StartChainModel" "thrown" "I" ∈ wsX5_state := by decide +kernel
  have k_68 : Cond.fieldLink RX5 68 "StartChainModel" "state" "C" ∈ wsX5_state := by decide +kernel
  have M : Mx pP mP cP cX5_state 1 sP ([.ref (ad 20 0)] : List Value).toArray wsX5_state RX5 D Z N0 := ⟨⟨hx, hb, hmlP, hown, hts⟩, hC⟩
  have hf : Fr g g := Fr.rf g
  have hS : va_S (AA N0) sP.heap sP.heap [] := va_S.rf
  have hl := lv_entry ([.ref (ad 20 0)]) (n := 1) (Nat.le_of_ble_eq_true rfl)
  rw [lg_entry_eq]
  generalize (lg_sl ([.ref (ad 20 0)]) ++ List.replicate (1 - (lg_sl ([.ref (ad 20 0)])).length) Slot.unset).toArray = ls at hl ⊢
  have hl : lv_has ls 1 [(0, .ref (ad 20 0))] := hl
  refine lv_aload_n hx hb dX5_state_0 rfl (lv_at hl 0 rfl) ?_
  refine lv_iconst (v := nI 0) hx hb dX5_state_1 (by decide) ?_
  refine r_put M hW hS 20 0 (lvM _) rfl rfl i_X5 tyX5 tyX5_ok nmX5 20 (by decide) k_72 (fun _ h9 => h9) rfl (ty := .int) (by decide +kernel) rfl rfl (Nat.le_of_ble_eq_true rfl) rfl rfl (Or.inr (show 0 ≤ 3 by decide)) dX5_state_2 (fun H locs hW hS => ?_)
  obtain ⟨g1_z, eg1_z⟩ : ∃ z, z = up g 20 0 20 0 := ⟨_, rfl⟩
  rw [← eg1_z] at hW
  have hf : Fr g g1_z := by rw [eg1_z]; exact hf.up rfl
  refine lv_aload_n hx hb dX5_state_5 rfl (lv_at hl 0 rfl) ?_
  have q2_z : g1_z 20 0 19 = g 20 0 19 := by rw [eg1_z]; first | rfl | simp [up_at]
  have b3_z : g1_z 20 0 19 ≤ 127 := hW.2.2.1.le 20 0 19 126 rfl
  refine r_get M hW 20 0 (lvM _) (v := .int (nI (g1_z 20 0 19))) rfl rfl i_X5 19 (by decide) k_68 (fun _ h9 => h9) rfl dX5_state_6 ?_
  -- path 1
  exact W.zret (v := nI (g1_z 20 0 19)) (ty := .char) hx hb hr (nar_c b3_z) (fun t ht hW9 => ⟨⟨nI (g1_z 20 0 19), g1_z, rfl, ⟨hf, (by subst eg1_z; exact ⟨rfl, rfl⟩)⟩, (show Wd D Z N0 g1_z ad t.heap by rw [ht]; exact hW)⟩, hS.F ht⟩) hS.2.2 dX5_state_9

set_option maxHeartbeats 4000000 in
set_option maxRecDepth 100000 in
theorem c_X5_fallbacks (l : Launch) (D : va_G) (Z : Nat → Nat) (N0 : Nat) (g : T3) (ad : T2) : Met l yX5_fallbacks wsX5_fallbacks ({ frames := 1, cells := 0, slots := 0, locals := 100 } : Room) (PC D Z N0 g ad [.ref (ad 20 0)]) (QI D Z N0 ad (fun (r : Int32) (g1 : T3) => Fr g g1 ∧ (r = nI (g 20 0 25) ∧ g1 = up g 20 0 20 0))) 0 0 (AA N0) := by
  refine Met.ofW (cc := cX5_fallbacks) (maxL := 1) (ret := (some .int)) (by decide) rfl ?_
  intro pP eP sP mP args below meth cP s₁ B hmlP hvP
  obtain ⟨rfl, hW, hC⟩ := hvP
  have hx := B.exec
  have hb := B.bytes
  have hr := B.returns
  have hts := atoms_spec (ws := wsX5_fallbacks) B.pre
  have hown : sP.vm.findClass RX5 = some mP.cls := findClass_of_methodNamed B.named
  have hlocks := B.notSynchronized
  have i_X5 : ∀ w ∈ wsX50, w ∈ wsX5_fallbacks := (fun _ h => List.mem_cons_of_mem _ (List.mem_append_right _ h))
  have k_88 : Cond.fieldLink RX5 88 "StartChainModel" "fallbacks" "I" ∈ wsX5_fallbacks := by decide +kernel
  have M : Mx pP mP cP cX5_fallbacks 1 sP ([.ref (ad 20 0)] : List Value).toArray wsX5_fallbacks RX5 D Z N0 := ⟨⟨hx, hb, hmlP, hown, hts⟩, hC⟩
  have hf : Fr g g := Fr.rf g
  have hS : va_S (AA N0) sP.heap sP.heap [] := va_S.rf
  have hl := lv_entry ([.ref (ad 20 0)]) (n := 1) (Nat.le_of_ble_eq_true rfl)
  rw [lg_entry_eq]
  generalize (lg_sl ([.ref (ad 20 0)]) ++ List.replicate (1 - (lg_sl ([.ref (ad 20 0)])).length) Slot.unset).toArray = ls at hl ⊢
  have hl : lv_has ls 1 [(0, .ref (ad 20 0))] := hl
  refine lv_aload_n hx hb dX5_fallbacks_0 rfl (lv_at hl 0 rfl) ?_
  refine lv_aload_n hx hb dX5_fallbacks_1 rfl (lv_at hl 0 rfl) ?_
  refine r_get M hW 20 0 (lvM _) (v := .int (nI (g 20 0 25))) rfl rfl i_X5 25 (by decide) k_88 (fun _ h9 => h9) rfl dX5_fallbacks_2 ?_
  refine k_ci (k_rV (As := [.int (nI (g 20 0 25))]) (rest := []) M hW hS (c_X5_plain l D Z N0 g ad (g 20 0 25)) (cwV 1 hts gX5_fallbacks_X5_plain rfl rfl rfl (by decide +kernel) ⟨Nat.le_of_ble_eq_true rfl, Nat.le_of_ble_eq_true rfl⟩) (r_recv M.2 hW 20 0 (lvM _) rfl rfl) rfl hl.1 rfl (Nat.le_of_ble_eq_true rfl) dX5_fallbacks_5 ⟨Nat.le_of_ble_eq_true rfl, Nat.le_of_ble_eq_true rfl⟩) hS (fun r2_z g1_z H locs hp hW hS => ?_)
  obtain ⟨hf1, hp⟩ := hp
  have hf : Fr g g1_z := hf.trans hf1
  obtain ⟨rfl, eg1_z⟩ := hp
  -- path 1
  exact W.iret (v := nI (g 20 0 25)) hx hb hr (fun t ht hW9 => ⟨⟨nI (g 20 0 25), g1_z, rfl, ⟨hf, (by subst eg1_z; exact ⟨rfl, rfl⟩)⟩, (show Wd D Z N0 g1_z ad t.heap by rw [ht]; exact hW)⟩, hS.F ht⟩) hS.2.2 dX5_fallbacks_8

set_option maxHeartbeats 4000000 in
set_option maxRecDepth 100000 in
theorem c_X5_entries (l : Launch) (D : va_G) (Z : Nat → Nat) (N0 : Nat) (g : T3) (ad : T2) : Met l yX5_entries wsX5_entries ({ frames := 1, cells := 0, slots := 0, locals := 100 } : Room) (PC D Z N0 g ad [.ref (ad 20 0)]) (QI D Z N0 ad (fun (r : Int32) (g1 : T3) => Fr g g1 ∧ (r = nI (g 20 0 23) ∧ g1 = up g 20 0 20 0))) 0 0 (AA N0) := by
  refine Met.ofW (cc := cX5_entries) (maxL := 1) (ret := (some .int)) (by decide) rfl ?_
  intro pP eP sP mP args below meth cP s₁ B hmlP hvP
  obtain ⟨rfl, hW, hC⟩ := hvP
  have hx := B.exec
  have hb := B.bytes
  have hr := B.returns
  have hts := atoms_spec (ws := wsX5_entries) B.pre
  have hown : sP.vm.findClass RX5 = some mP.cls := findClass_of_methodNamed B.named
  have hlocks := B.notSynchronized
  have i_X5 : ∀ w ∈ wsX50, w ∈ wsX5_entries := (fun _ h => List.mem_cons_of_mem _ (List.mem_append_right _ h))
  have k_82 : Cond.fieldLink RX5 82 "StartChainModel" "entries" "I" ∈ wsX5_entries := by decide +kernel
  have M : Mx pP mP cP cX5_entries 1 sP ([.ref (ad 20 0)] : List Value).toArray wsX5_entries RX5 D Z N0 := ⟨⟨hx, hb, hmlP, hown, hts⟩, hC⟩
  have hf : Fr g g := Fr.rf g
  have hS : va_S (AA N0) sP.heap sP.heap [] := va_S.rf
  have hl := lv_entry ([.ref (ad 20 0)]) (n := 1) (Nat.le_of_ble_eq_true rfl)
  rw [lg_entry_eq]
  generalize (lg_sl ([.ref (ad 20 0)]) ++ List.replicate (1 - (lg_sl ([.ref (ad 20 0)])).length) Slot.unset).toArray = ls at hl ⊢
  have hl : lv_has ls 1 [(0, .ref (ad 20 0))] := hl
  refine lv_aload_n hx hb dX5_entries_0 rfl (lv_at hl 0 rfl) ?_
  refine lv_aload_n hx hb dX5_entries_1 rfl (lv_at hl 0 rfl) ?_
  have b1_z : g 20 0 23 ≤ 12 := hW.2.2.1.le 20 0 23 11 rfl
  refine r_get M hW 20 0 (lvM _) (v := .int (nI (g 20 0 23))) rfl rfl i_X5 23 (by decide) k_82 (fun _ h9 => h9) rfl dX5_entries_2 ?_
  refine k_ci (k_rV (As := [.int (nI (g 20 0 23))]) (rest := []) M hW hS (c_X5_plain l D Z N0 g ad (g 20 0 23)) (cwV 1 hts gX5_entries_X5_plain rfl rfl rfl (by decide +kernel) ⟨Nat.le_of_ble_eq_true rfl, Nat.le_of_ble_eq_true rfl⟩) (r_recv M.2 hW 20 0 (lvM _) rfl rfl) rfl hl.1 rfl (Nat.le_of_ble_eq_true rfl) dX5_entries_5 ⟨Nat.le_of_ble_eq_true rfl, Nat.le_of_ble_eq_true rfl⟩) hS (fun r3_z g2_z H locs hp hW hS => ?_)
  obtain ⟨hf1, hp⟩ := hp
  have hf : Fr g g2_z := hf.trans hf1
  obtain ⟨rfl, eg2_z⟩ := hp
  -- path 1
  exact W.iret (v := nI (g 20 0 23)) hx hb hr (fun t ht hW9 => ⟨⟨nI (g 20 0 23), g2_z, rfl, ⟨hf, (by subst eg2_z; exact ⟨rfl, rfl⟩)⟩, (show Wd D Z N0 g2_z ad t.heap by rw [ht]; exact hW)⟩, hS.F ht⟩) hS.2.2 dX5_entries_8

set_option maxHeartbeats 4000000 in
set_option maxRecDepth 100000 in
theorem c_X5_register (l : Launch) (D : va_G) (Z : Nat → Nat) (N0 : Nat) (g : T3) (ad : T2) (x : Int32) : Met l yX5_register wsX5_register ({ frames := 2, cells := 0, slots := 0, locals := 140 } : Room) (PC D Z N0 g ad [.ref (ad 20 0), .int (x)]) (QI D Z N0 ad (fun (r : Int32) (g1 : T3) => Fr g g1 ∧ ((¬ Ix 3 x ∧ r = nI 0 ∧ g1 = up g 20 0 20 1) ∨ (∃ i, i < 3 ∧ x = nI i ∧ r = nI (g 33 0 i) ∧ g1 = up g 20 0 20 0)))) 0 0 (AA N0) := by
  refine Met.ofW (cc := cX5_register) (maxL := 2) (ret := (some .int)) (by decide) rfl ?_
  intro pP eP sP mP args below meth cP s₁ B hmlP hvP
  obtain ⟨rfl, hW, hC⟩ := hvP
  have hx := B.exec
  have hb := B.bytes
  have hr := B.returns
  have hts := atoms_spec (ws := wsX5_register) B.pre
  have hown : sP.vm.findClass RX5 = some mP.cls := findClass_of_methodNamed B.named
  have hlocks := B.notSynchronized
  have i_X5 : ∀ w ∈ wsX50, w ∈ wsX5_register := (fun _ h => List.mem_cons_of_mem _ (List.mem_append_left _ (List.mem_append_right _ h)))
  have k_47 : Cond.fieldLink RX5 47 "StartChainModel" "values" "[I" ∈ wsX5_register := by decide +kernel
  have M : Mx pP mP cP cX5_register 2 sP ([.ref (ad 20 0), .int (x)] : List Value).toArray wsX5_register RX5 D Z N0 := ⟨⟨hx, hb, hmlP, hown, hts⟩, hC⟩
  have hf : Fr g g := Fr.rf g
  have hS : va_S (AA N0) sP.heap sP.heap [] := va_S.rf
  have hl := lv_entry ([.ref (ad 20 0), .int (x)]) (n := 2) (Nat.le_of_ble_eq_true rfl)
  rw [lg_entry_eq]
  generalize (lg_sl ([.ref (ad 20 0), .int (x)]) ++ List.replicate (2 - (lg_sl ([.ref (ad 20 0), .int (x)])).length) Slot.unset).toArray = ls at hl ⊢
  have hl : lv_has ls 2 [(0, .ref (ad 20 0)), (1, .int (x))] := hl
  refine lv_aload_n hx hb dX5_register_0 rfl (lv_at hl 0 rfl) ?_
  refine lv_iload_n hx hb dX5_register_1 rfl (lv_at hl 1 rfl) ?_
  refine k_ci (k_rS (As := [.int (x)]) (rest := [.ref (ad 20 0)]) M hW hS (c_X5_isRegister l D Z N0 g ad (x)) (va_cwS 1 hts gX5_register_X5_isRegister rfl rfl rfl (by decide +kernel) ⟨Nat.le_of_ble_eq_true rfl, Nat.le_of_ble_eq_true rfl⟩) rfl hl.1 rfl (Nat.le_of_ble_eq_true rfl) dX5_register_2 ⟨Nat.le_of_ble_eq_true rfl, Nat.le_of_ble_eq_true rfl⟩) hS (fun r2_z g1_z H locs hp hW hS => ?_)
  obtain ⟨hf1, hp⟩ := hp
  have hf : Fr g g1_z := hf.trans hf1
  obtain ⟨hp, hg⟩ := hp
  subst hg
  rcases hp with ⟨rfl, c3_z⟩ | ⟨rfl, c3_z⟩
  · obtain ⟨i, hi, rfl⟩ := c3_z
    refine k_ci (k_rV (As := [.int (nI (1))]) (rest := []) M hW hS (c_X5_checked l D Z N0 g ad 1 (show 1 ≤ 1 by decide)) (cwV 1 hts gX5_register_X5_checked rfl rfl rfl (by decide +kernel) ⟨Nat.le_of_ble_eq_true rfl, Nat.le_of_ble_eq_true rfl⟩) (r_recv M.2 hW 20 0 (lvM _) rfl rfl) rfl hl.1 rfl (Nat.le_of_ble_eq_true rfl) dX5_register_5 ⟨Nat.le_of_ble_eq_true rfl, Nat.le_of_ble_eq_true rfl⟩) hS (fun r5_z g4_z H locs hp hW hS => ?_)
    obtain ⟨hf1, hp⟩ := hp
    have hf : Fr g g4_z := hf.trans hf1
    obtain ⟨hr9, eg4_z⟩ := hp
    have hr9 : r5_z = nI 0 := hr9
    subst hr9
    have eg4_z : g4_z = up g 20 0 20 0 := eg4_z
    refine n_if_le (tgt := 15) hx hb (by decide) dX5_register_8 (by decide) (fun _ => ?_) (fun h9 => absurd h9 (by decide))
    refine lv_aload_n hx hb dX5_register_15 rfl (lv_at hl 0 rfl) ?_
    refine r_get M hW 20 0 (lvM _) (v := .ref (ad 33 0)) rfl rfl i_X5 12 (by decide) k_47 (fun _ h9 => h9) rfl dX5_register_16 ?_
    refine lv_iload_n hx hb dX5_register_19 rfl (lv_at hl 1 rfl) ?_
    refine r_iald M hW 33 0 ⟨rfl, by decide, by decide⟩ (n := 3) rfl (Nat.lt_of_le_of_lt (Nat.le_of_lt_succ hi) (by decide)) (by decide) dX5_register_20 ?_
    have b7_z : g4_z 33 0 i ≤ 9972 := hW.2.2.1.le 33 0 i 9971 rfl
    -- path 1
    exact W.iret (v := nI (g4_z 33 0 i)) hx hb hr (fun t ht hW9 => ⟨⟨nI (g4_z 33 0 i), g4_z, rfl, ⟨hf, (by subst eg4_z; exact Or.inr ⟨i, hi, rfl, rfl, rfl⟩)⟩, (show Wd D Z N0 g4_z ad t.heap by rw [ht]; exact hW)⟩, hS.F ht⟩) hS.2.2 dX5_register_21
  · refine k_ci (k_rV (As := [.int (nI (0))]) (rest := []) M hW hS (c_X5_checked l D Z N0 g ad 0 (show 0 ≤ 1 by decide)) (cwV 1 hts gX5_register_X5_checked rfl rfl rfl (by decide +kernel) ⟨Nat.le_of_ble_eq_true rfl, Nat.le_of_ble_eq_true rfl⟩) (r_recv M.2 hW 20 0 (lvM _) rfl rfl) rfl hl.1 rfl (Nat.le_of_ble_eq_true rfl) dX5_register_5 ⟨Nat.le_of_ble_eq_true rfl, Nat.le_of_ble_eq_true rfl⟩) hS (fun r9_z g8_z H locs hp hW hS => ?_)
    obtain ⟨hf1, hp⟩ := hp
    have hf : Fr g g8_z := hf.trans hf1
    obtain ⟨hr9, eg8_z⟩ := hp
    have hr9 : r9_z = nI 1 := hr9
    subst hr9
    have eg8_z : g8_z = up g 20 0 20 1 := eg8_z
    refine n_if_le (tgt := 15) hx hb (by decide) dX5_register_8 (by decide) (fun h9 => absurd h9 (by decide)) (fun _ => ?_)
    refine lv_iconst (v := nI 0) hx hb dX5_register_11 (by decide) ?_
    refine lv_goto (tgt := 21) hx hb dX5_register_12 (by decide) ?_
    -- path 2
    exact W.iret (v := nI (0)) hx hb hr (fun t ht hW9 => ⟨⟨nI (0), g8_z, rfl, ⟨hf, (by subst eg8_z; exact Or.inl ⟨c3_z, rfl, rfl⟩)⟩, (show Wd D Z N0 g8_z ad t.heap by rw [ht]; exact hW)⟩, hS.F ht⟩) hS.2.2 dX5_register_21

set_option maxHeartbeats 4000000 in
set_option maxRecDepth 100000 in
theorem c_X5_entry (l : Launch) (D : va_G) (Z : Nat → Nat) (N0 : Nat) (g : T3) (ad : T2) (x : Int32) : Met l yX5_entry wsX5_entry ({ frames := 1, cells := 0, slots := 0, locals := 100 } : Room) (PC D Z N0 g ad [.ref (ad 20 0), .int (x)]) (QI D Z N0 ad (fun (r : Int32) (g1 : T3) => Fr g g1 ∧ ((¬ Ix (g 20 0 23) x ∧ r = nI 0 ∧ g1 = up g 20 0 20 1) ∨ (∃ i, i < g 20 0 23 ∧ x = nI i ∧ r = nI (g 32 0 i) ∧ g1 = up g 20 0 20 0)))) 0 0 (AA N0) := by
  refine Met.ofW (cc := cX5_entry) (maxL := 2) (ret := (some .int)) (by decide) rfl ?_
  intro pP eP sP mP args below meth cP s₁ B hmlP hvP
  obtain ⟨rfl, hW, hC⟩ := hvP
  have hx := B.exec
  have hb := B.bytes
  have hr := B.returns
  have hts := atoms_spec (ws := wsX5_entry) B.pre
  have hown : sP.vm.findClass RX5 = some mP.cls := findClass_of_methodNamed B.named
  have hlocks := B.notSynchronized
  have i_X5 : ∀ w ∈ wsX50, w ∈ wsX5_entry := (fun _ h => List.mem_cons_of_mem _ (List.mem_append_left _ (List.mem_append_right _ h)))
  have k_82 : Cond.fieldLink RX5 82 "StartChainModel" "entries" "I" ∈ wsX5_entry := by decide +kernel
  have k_44 : Cond.fieldLink RX5 44 "StartChainModel" "log" "[I" ∈ wsX5_entry := by decide +kernel
  have M : Mx pP mP cP cX5_entry 2 sP ([.ref (ad 20 0), .int (x)] : List Value).toArray wsX5_entry RX5 D Z N0 := ⟨⟨hx, hb, hmlP, hown, hts⟩, hC⟩
  have hf : Fr g g := Fr.rf g
  have hS : va_S (AA N0) sP.heap sP.heap [] := va_S.rf
  have hl := lv_entry ([.ref (ad 20 0), .int (x)]) (n := 2) (Nat.le_of_ble_eq_true rfl)
  rw [lg_entry_eq]
  generalize (lg_sl ([.ref (ad 20 0), .int (x)]) ++ List.replicate (2 - (lg_sl ([.ref (ad 20 0), .int (x)])).length) Slot.unset).toArray = ls at hl ⊢
  have hl : lv_has ls 2 [(0, .ref (ad 20 0)), (1, .int (x))] := hl
  have hse9 := hW.2.2.1.le 20 0 23 11 rfl
  refine lv_aload_n hx hb dX5_entry_0 rfl (lv_at hl 0 rfl) ?_
  refine lv_iload_n hx hb dX5_entry_1 rfl (lv_at hl 1 rfl) ?_
  refine lv_iconst (v := nI 0) hx hb dX5_entry_2 (by decide) ?_
  refine lv_aload_n hx hb dX5_entry_3 rfl (lv_at hl 0 rfl) ?_
  have b1_z : g 20 0 23 ≤ 12 := hW.2.2.1.le 20 0 23 11 rfl
  refine r_get M hW 20 0 (lvM _) (v := .int (nI (g 20 0 23))) rfl rfl i_X5 23 (by decide) k_82 (fun _ h9 => h9) rfl dX5_entry_4 ?_
  refine lv_iconst (v := nI 1) hx hb dX5_entry_7 (by decide) ?_
  refine lv_isub hx hb dX5_entry_8 ?_
  refine k_ci (k_rS (As := [.int (x), .int (nI (0)), .int (nI (g 20 0 23) - nI (1))]) (rest := [.ref (ad 20 0)]) M hW hS (c_X5_in l D Z N0 g ad (x) (nI (0)) (nI (g 20 0 23) - nI (1))) (va_cwS 3 hts gX5_entry_X5_in rfl rfl rfl (by decide +kernel) ⟨Nat.le_of_ble_eq_true rfl, Nat.le_of_ble_eq_true rfl⟩) rfl hl.1 rfl (Nat.le_of_ble_eq_true rfl) dX5_entry_9 ⟨Nat.le_of_ble_eq_true rfl, Nat.le_of_ble_eq_true rfl⟩) hS (fun r3_z g2_z H locs hp hW hS => ?_)
  obtain ⟨hf1, hp⟩ := hp
  have hf : Fr g g2_z := hf.trans hf1
  obtain ⟨hp, hg⟩ := hp
  subst hg
  rcases hp with ⟨rfl, c4_z⟩ | ⟨rfl, c4_z⟩
  · obtain ⟨i, hi, rfl⟩ := (ix_iff (Nat.lt_of_le_of_lt hse9 (by decide))).mp c4_z
    refine k_ci (k_rV (As := [.int (nI (1))]) (rest := []) M hW hS (c_X5_checked l D Z N0 g ad 1 (show 1 ≤ 1 by decide)) (cwV 1 hts gX5_entry_X5_checked rfl rfl rfl (by decide +kernel) ⟨Nat.le_of_ble_eq_true rfl, Nat.le_of_ble_eq_true rfl⟩) (r_recv M.2 hW 20 0 (lvM _) rfl rfl) rfl hl.1 rfl (Nat.le_of_ble_eq_true rfl) dX5_entry_12 ⟨Nat.le_of_ble_eq_true rfl, Nat.le_of_ble_eq_true rfl⟩) hS (fun r6_z g5_z H locs hp hW hS => ?_)
    obtain ⟨hf1, hp⟩ := hp
    have hf : Fr g g5_z := hf.trans hf1
    obtain ⟨hr9, eg5_z⟩ := hp
    have hr9 : r6_z = nI 0 := hr9
    subst hr9
    have eg5_z : g5_z = up g 20 0 20 0 := eg5_z
    refine n_if_le (tgt := 22) hx hb (by decide) dX5_entry_15 (by decide) (fun _ => ?_) (fun h9 => absurd h9 (by decide))
    refine lv_aload_n hx hb dX5_entry_22 rfl (lv_at hl 0 rfl) ?_
    refine r_get M hW 20 0 (lvM _) (v := .ref (ad 32 0)) rfl rfl i_X5 11 (by decide) k_44 (fun _ h9 => h9) rfl dX5_entry_23 ?_
    refine lv_iload_n hx hb dX5_entry_26 rfl (lv_at hl 1 rfl) ?_
    refine r_iald M hW 32 0 ⟨rfl, by decide, by decide⟩ (n := 12) rfl (by omega) (by decide) dX5_entry_27 ?_
    have b8_z : g5_z 32 0 i ≤ 2999 := hW.2.2.1.le 32 0 i 2998 rfl
    -- path 1
    exact W.iret (v := nI (g5_z 32 0 i)) hx hb hr (fun t ht hW9 => ⟨⟨nI (g5_z 32 0 i), g5_z, rfl, ⟨hf, (by subst eg5_z; exact Or.inr ⟨i, hi, rfl, rfl, rfl⟩)⟩, (show Wd D Z N0 g5_z ad t.heap by rw [ht]; exact hW)⟩, hS.F ht⟩) hS.2.2 dX5_entry_28
  · refine k_ci (k_rV (As := [.int (nI (0))]) (rest := []) M hW hS (c_X5_checked l D Z N0 g ad 0 (show 0 ≤ 1 by decide)) (cwV 1 hts gX5_entry_X5_checked rfl rfl rfl (by decide +kernel) ⟨Nat.le_of_ble_eq_true rfl, Nat.le_of_ble_eq_true rfl⟩) (r_recv M.2 hW 20 0 (lvM _) rfl rfl) rfl hl.1 rfl (Nat.le_of_ble_eq_true rfl) dX5_entry_12 ⟨Nat.le_of_ble_eq_true rfl, Nat.le_of_ble_eq_true rfl⟩) hS (fun r10_z g9_z H locs hp hW hS => ?_)
    obtain ⟨hf1, hp⟩ := hp
    have hf : Fr g g9_z := hf.trans hf1
    obtain ⟨hr9, eg9_z⟩ := hp
    have hr9 : r10_z = nI 1 := hr9
    subst hr9
    have eg9_z : g9_z = up g 20 0 20 1 := eg9_z
    refine n_if_le (tgt := 22) hx hb (by decide) dX5_entry_15 (by decide) (fun h9 => absurd h9 (by decide)) (fun _ => ?_)
    refine lv_iconst (v := nI 0) hx hb dX5_entry_18 (by decide) ?_
    refine lv_goto (tgt := 28) hx hb dX5_entry_19 (by decide) ?_
    -- path 2
    exact W.iret (v := nI (0)) hx hb hr (fun t ht hW9 => ⟨⟨nI (0), g9_z, rfl, ⟨hf, (by subst eg9_z; exact Or.inl ⟨fun h => c4_z ((ix_iff (Nat.lt_of_le_of_lt hse9 (by decide))).mpr h), rfl, rfl⟩)⟩, (show Wd D Z N0 g9_z ad t.heap by rw [ht]; exact hW)⟩, hS.F ht⟩) hS.2.2 dX5_entry_28

set_option maxHeartbeats 4000000 in
set_option maxRecDepth 100000 in
theorem c_X5_runsFrom (l : Launch) (D : va_G) (Z : Nat → Nat) (N0 : Nat) (g : T3) (ad : T2) (x : Int32) : Met l yX5_runsFrom wsX5_runsFrom ({ frames := 2, cells := 0, slots := 0, locals := 140 } : Room) (PC D Z N0 g ad [.ref (ad 20 0), .int (x)]) (QI D Z N0 ad (fun (r : Int32) (g1 : T3) => Fr g g1 ∧ ((¬ Ix (g 20 0 21) x ∧ r = nI 0 ∧ g1 = up g 20 0 20 1) ∨ (∃ i, i < g 20 0 21 ∧ x = nI i ∧ ¬ i < g 20 0 24 ∧ r = nI 0 ∧ g1 = up g 20 0 20 2) ∨ (∃ i, i < g 20 0 21 ∧ x = nI i ∧ i < g 20 0 24 ∧ r = nI (g 30 0 i) ∧ g1 = up g 20 0 20 0)))) 0 0 (AA N0) := by
  refine Met.ofW (cc := cX5_runsFrom) (maxL := 2) (ret := (some .int)) (by decide) rfl ?_
  intro pP eP sP mP args below meth cP s₁ B hmlP hvP
  obtain ⟨rfl, hW, hC⟩ := hvP
  have hx := B.exec
  have hb := B.bytes
  have hr := B.returns
  have hts := atoms_spec (ws := wsX5_runsFrom) B.pre
  have hown : sP.vm.findClass RX5 = some mP.cls := findClass_of_methodNamed B.named
  have hlocks := B.notSynchronized
  have i_X5 : ∀ w ∈ wsX50, w ∈ wsX5_runsFrom := (fun _ h => List.mem_cons_of_mem _ (List.mem_append_left _ (List.mem_append_right _ h)))
  have k_85 : Cond.fieldLink RX5 85 "StartChainModel" "running" "I" ∈ wsX5_runsFrom := by decide +kernel
  have k_72 : Cond.fieldLink RX5 72 "StartChainModel" "thrown" "I" ∈ wsX5_runsFrom := by decide +kernel
  have k_38 : Cond.fieldLink RX5 38 "StartChainModel" "ran" "[I" ∈ wsX5_runsFrom := by decide +kernel
  have M : Mx pP mP cP cX5_runsFrom 2 sP ([.ref (ad 20 0), .int (x)] : List Value).toArray wsX5_runsFrom RX5 D Z N0 := ⟨⟨hx, hb, hmlP, hown, hts⟩, hC⟩
  have hf : Fr g g := Fr.rf g
  have hS : va_S (AA N0) sP.heap sP.heap [] := va_S.rf
  have hl := lv_entry ([.ref (ad 20 0), .int (x)]) (n := 2) (Nat.le_of_ble_eq_true rfl)
  rw [lg_entry_eq]
  generalize (lg_sl ([.ref (ad 20 0), .int (x)]) ++ List.replicate (2 - (lg_sl ([.ref (ad 20 0), .int (x)])).length) Slot.unset).toArray = ls at hl ⊢
  have hl : lv_has ls 2 [(0, .ref (ad 20 0)), (1, .int (x))] := hl
  have hsz9 := hW.2.2.1.le 20 0 21 5 rfl
  refine lv_aload_n hx hb dX5_runsFrom_0 rfl (lv_at hl 0 rfl) ?_
  refine lv_aload_n hx hb dX5_runsFrom_1 rfl (lv_at hl 0 rfl) ?_
  refine lv_iload_n hx hb dX5_runsFrom_2 rfl (lv_at hl 1 rfl) ?_
  refine k_ci (k_rV (As := [.int (x)]) (rest := [.ref (ad 20 0)]) M hW hS (c_X5_isStage l D Z N0 g ad (x)) (cwV 1 hts gX5_runsFrom_X5_isStage rfl rfl rfl (by decide +kernel) ⟨Nat.le_of_ble_eq_true rfl, Nat.le_of_ble_eq_true rfl⟩) (r_recv M.2 hW 20 0 (lvM _) rfl rfl) rfl hl.1 rfl (Nat.le_of_ble_eq_true rfl) dX5_runsFrom_3 ⟨Nat.le_of_ble_eq_true rfl, Nat.le_of_ble_eq_true rfl⟩) hS (fun r2_z g1_z H locs hp hW hS => ?_)
  obtain ⟨hf1, hp⟩ := hp
  have hf : Fr g g1_z := hf.trans hf1
  obtain ⟨hp, hg⟩ := hp
  subst hg
  rcases hp with ⟨rfl, c3_z⟩ | ⟨rfl, c3_z⟩
  · obtain ⟨i, hi, rfl⟩ := c3_z
    refine n_if_ne (tgt := 13) hx hb (by decide) dX5_runsFrom_6 (by decide) (fun _ => ?_) (fun h9 => absurd h9 (by decide))
    refine lv_iload_n hx hb dX5_runsFrom_13 rfl (lv_at hl 1 rfl) ?_
    refine lv_aload_n hx hb dX5_runsFrom_14 rfl (lv_at hl 0 rfl) ?_
    have b5_z : g 20 0 24 ≤ 6 := hW.2.2.1.le 20 0 24 5 rfl
    refine r_get M hW 20 0 (lvM _) (v := .int (nI (g 20 0 24))) rfl rfl i_X5 24 (by decide) k_85 (fun _ h9 => h9) rfl dX5_runsFrom_15 ?_
    refine n_icmp_lt (tgt := 25) hx hb (by omega) (Nat.lt_of_le_of_lt b5_z (by decide)) dX5_runsFrom_18 (by decide) (fun c6_z => ?_) (fun c6_z => ?_)
    · refine lv_iconst (v := nI 0) hx hb dX5_runsFrom_25 (by decide) ?_
      refine r_put M hW hS 20 0 (lvM _) rfl rfl i_X5 tyX5 tyX5_ok nmX5 20 (by decide) k_72 (fun _ h9 => h9) rfl (ty := .int) (by decide +kernel) rfl rfl (Nat.le_of_ble_eq_true rfl) rfl rfl (Or.inr (show 0 ≤ 3 by decide)) dX5_runsFrom_26 (fun H locs hW hS => ?_)
      obtain ⟨g7_z, eg7_z⟩ : ∃ z, z = up g 20 0 20 0 := ⟨_, rfl⟩
      rw [← eg7_z] at hW
      have hf : Fr g g7_z := by rw [eg7_z]; exact hf.up rfl
      refine lv_aload_n hx hb dX5_runsFrom_29 rfl (lv_at hl 0 rfl) ?_
      have b8_z : g7_z 20 0 20 ≤ 3 := hW.2.2.1.le 20 0 20 2 rfl
      refine r_get M hW 20 0 (lvM _) (v := .int (nI (g7_z 20 0 20))) rfl rfl i_X5 20 (by decide) k_72 (fun _ h9 => h9) rfl dX5_runsFrom_30 ?_
      have q9_z : g7_z 20 0 20 = 0 := by rw [eg7_z]; first | rfl | simp [up_at]
      refine W.eq (g2 := F0 mP 33 ls (.int (nI (0)) :: [])) (congrArg (fun z => F0 mP 33 ls (.int (nI z) :: [])) q9_z) ?_
      refine n_if_le (tgt := 40) hx hb (by decide) dX5_runsFrom_33 (by decide) (fun _ => ?_) (fun h9 => absurd h9 (by decide))
      refine lv_aload_n hx hb dX5_runsFrom_40 rfl (lv_at hl 0 rfl) ?_
      refine r_get M hW 20 0 (lvM _) (v := .ref (ad 30 0)) rfl rfl i_X5 9 (by decide) k_38 (fun _ h9 => h9) rfl dX5_runsFrom_41 ?_
      refine lv_iload_n hx hb dX5_runsFrom_44 rfl (lv_at hl 1 rfl) ?_
      refine r_iald M hW 30 0 ⟨rfl, by decide, by decide⟩ (n := 6) rfl (by omega) (by decide) dX5_runsFrom_45 ?_
      have b11_z : g7_z 30 0 i ≤ 1 := hW.2.2.1.le 30 0 i 0 rfl
      -- path 1
      exact W.iret (v := nI (g7_z 30 0 i)) hx hb hr (fun t ht hW9 => ⟨⟨nI (g7_z 30 0 i), g7_z, rfl, ⟨hf, (by subst eg7_z; exact Or.inr (Or.inr ⟨i, hi, rfl, c6_z, rfl, rfl⟩))⟩, (show Wd D Z N0 g7_z ad t.heap by rw [ht]; exact hW)⟩, hS.F ht⟩) hS.2.2 dX5_runsFrom_46
    · refine lv_iconst (v := nI 2) hx hb dX5_runsFrom_21 (by decide) ?_
      refine lv_goto (tgt := 26) hx hb dX5_runsFrom_22 (by decide) ?_
      refine r_put M hW hS 20 0 (lvM _) rfl rfl i_X5 tyX5 tyX5_ok nmX5 20 (by decide) k_72 (fun _ h9 => h9) rfl (ty := .int) (by decide +kernel) rfl rfl (Nat.le_of_ble_eq_true rfl) rfl rfl (Or.inr (show 2 ≤ 3 by decide)) dX5_runsFrom_26 (fun H locs hW hS => ?_)
      obtain ⟨g12_z, eg12_z⟩ : ∃ z, z = up g 20 0 20 2 := ⟨_, rfl⟩
      rw [← eg12_z] at hW
      have hf : Fr g g12_z := by rw [eg12_z]; exact hf.up rfl
      refine lv_aload_n hx hb dX5_runsFrom_29 rfl (lv_at hl 0 rfl) ?_
      have b13_z : g12_z 20 0 20 ≤ 3 := hW.2.2.1.le 20 0 20 2 rfl
      refine r_get M hW 20 0 (lvM _) (v := .int (nI (g12_z 20 0 20))) rfl rfl i_X5 20 (by decide) k_72 (fun _ h9 => h9) rfl dX5_runsFrom_30 ?_
      have q14_z : g12_z 20 0 20 = 2 := by rw [eg12_z]; first | rfl | simp [up_at]
      refine W.eq (g2 := F0 mP 33 ls (.int (nI (2)) :: [])) (congrArg (fun z => F0 mP 33 ls (.int (nI z) :: [])) q14_z) ?_
      refine n_if_le (tgt := 40) hx hb (by decide) dX5_runsFrom_33 (by decide) (fun h9 => absurd h9 (by decide)) (fun _ => ?_)
      refine lv_iconst (v := nI 0) hx hb dX5_runsFrom_36 (by decide) ?_
      refine lv_goto (tgt := 46) hx hb dX5_runsFrom_37 (by decide) ?_
      -- path 2
      exact W.iret (v := nI (0)) hx hb hr (fun t ht hW9 => ⟨⟨nI (0), g12_z, rfl, ⟨hf, (by subst eg12_z; exact Or.inr (Or.inl ⟨i, hi, rfl, c6_z, rfl, rfl⟩))⟩, (show Wd D Z N0 g12_z ad t.heap by rw [ht]; exact hW)⟩, hS.F ht⟩) hS.2.2 dX5_runsFrom_46
  · refine n_if_ne (tgt := 13) hx hb (by decide) dX5_runsFrom_6 (by decide) (fun h9 => absurd h9 (by decide)) (fun _ => ?_)
    refine lv_iconst (v := nI 1) hx hb dX5_runsFrom_9 (by decide) ?_
    refine lv_goto (tgt := 26) hx hb dX5_runsFrom_10 (by decide) ?_
    refine r_put M hW hS 20 0 (lvM _) rfl rfl i_X5 tyX5 tyX5_ok nmX5 20 (by decide) k_72 (fun _ h9 => h9) rfl (ty := .int) (by decide +kernel) rfl rfl (Nat.le_of_ble_eq_true rfl) rfl rfl (Or.inr (show 1 ≤ 3 by decide)) dX5_runsFrom_26 (fun H locs hW hS => ?_)
    obtain ⟨g17_z, eg17_z⟩ : ∃ z, z = up g 20 0 20 1 := ⟨_, rfl⟩
    rw [← eg17_z] at hW
    have hf : Fr g g17_z := by rw [eg17_z]; exact hf.up rfl
    refine lv_aload_n hx hb dX5_runsFrom_29 rfl (lv_at hl 0 rfl) ?_
    have b18_z : g17_z 20 0 20 ≤ 3 := hW.2.2.1.le 20 0 20 2 rfl
    refine r_get M hW 20 0 (lvM _) (v := .int (nI (g17_z 20 0 20))) rfl rfl i_X5 20 (by decide) k_72 (fun _ h9 => h9) rfl dX5_runsFrom_30 ?_
    have q19_z : g17_z 20 0 20 = 1 := by rw [eg17_z]; first | rfl | simp [up_at]
    refine W.eq (g2 := F0 mP 33 ls (.int (nI (1)) :: [])) (congrArg (fun z => F0 mP 33 ls (.int (nI z) :: [])) q19_z) ?_
    refine n_if_le (tgt := 40) hx hb (by decide) dX5_runsFrom_33 (by decide) (fun h9 => absurd h9 (by decide)) (fun _ => ?_)
    refine lv_iconst (v := nI 0) hx hb dX5_runsFrom_36 (by decide) ?_
    refine lv_goto (tgt := 46) hx hb dX5_runsFrom_37 (by decide) ?_
    -- path 3
    exact W.iret (v := nI (0)) hx hb hr (fun t ht hW9 => ⟨⟨nI (0), g17_z, rfl, ⟨hf, (by subst eg17_z; exact Or.inl ⟨c3_z, rfl, rfl⟩)⟩, (show Wd D Z N0 g17_z ad t.heap by rw [ht]; exact hW)⟩, hS.F ht⟩) hS.2.2 dX5_runsFrom_46

set_option maxHeartbeats 4000000 in
set_option maxRecDepth 100000 in
theorem c_X5_opens (l : Launch) (D : va_G) (Z : Nat → Nat) (N0 : Nat) (g : T3) (ad : T2) (x : Int32) : Met l yX5_opens wsX5_opens ({ frames := 3, cells := 0, slots := 0, locals := 180 } : Room) (PC D Z N0 g ad [.ref (ad 20 0), .int (x)]) (QI D Z N0 ad (fun (r : Int32) (g1 : T3) => Fr g g1 ∧ ((¬ Ix (g 20 0 22) x ∧ r = nI 0 ∧ g1 = up g 20 0 20 1) ∨ (∃ j, j < g 20 0 22 ∧ x = nI j ∧ bP r (mO (up g 20 0 20 0) j) ∧ g1 = up g 20 0 20 0)))) 0 0 (AA N0) := by
  refine Met.ofW (cc := cX5_opens) (maxL := 2) (ret := (some .boolean)) (by decide) rfl ?_
  intro pP eP sP mP args below meth cP s₁ B hmlP hvP
  obtain ⟨rfl, hW, hC⟩ := hvP
  have hx := B.exec
  have hb := B.bytes
  have hr := B.returns
  have hts := atoms_spec (ws := wsX5_opens) B.pre
  have hown : sP.vm.findClass RX5 = some mP.cls := findClass_of_methodNamed B.named
  have hlocks := B.notSynchronized
  have M : Mx pP mP cP cX5_opens 2 sP ([.ref (ad 20 0), .int (x)] : List Value).toArray wsX5_opens RX5 D Z N0 := ⟨⟨hx, hb, hmlP, hown, hts⟩, hC⟩
  have hf : Fr g g := Fr.rf g
  have hS : va_S (AA N0) sP.heap sP.heap [] := va_S.rf
  have hl := lv_entry ([.ref (ad 20 0), .int (x)]) (n := 2) (Nat.le_of_ble_eq_true rfl)
  rw [lg_entry_eq]
  generalize (lg_sl ([.ref (ad 20 0), .int (x)]) ++ List.replicate (2 - (lg_sl ([.ref (ad 20 0), .int (x)])).length) Slot.unset).toArray = ls at hl ⊢
  have hl : lv_has ls 2 [(0, .ref (ad 20 0)), (1, .int (x))] := hl
  have hsc9 := hW.2.2.1.le 20 0 22 7 rfl
  refine lv_aload_n hx hb dX5_opens_0 rfl (lv_at hl 0 rfl) ?_
  refine lv_aload_n hx hb dX5_opens_1 rfl (lv_at hl 0 rfl) ?_
  refine lv_iload_n hx hb dX5_opens_2 rfl (lv_at hl 1 rfl) ?_
  refine k_ci (k_rV (As := [.int (x)]) (rest := [.ref (ad 20 0)]) M hW hS (c_X5_isSecret l D Z N0 g ad (x)) (cwV 1 hts gX5_opens_X5_isSecret rfl rfl rfl (by decide +kernel) ⟨Nat.le_of_ble_eq_true rfl, Nat.le_of_ble_eq_true rfl⟩) (r_recv M.2 hW 20 0 (lvM _) rfl rfl) rfl hl.1 rfl (Nat.le_of_ble_eq_true rfl) dX5_opens_3 ⟨Nat.le_of_ble_eq_true rfl, Nat.le_of_ble_eq_true rfl⟩) hS (fun r2_z g1_z H locs hp hW hS => ?_)
  obtain ⟨hf1, hp⟩ := hp
  have hf : Fr g g1_z := hf.trans hf1
  obtain ⟨hp, hg⟩ := hp
  subst hg
  rcases hp with ⟨rfl, c3_z⟩ | ⟨rfl, c3_z⟩
  · obtain ⟨i, hi, rfl⟩ := c3_z
    refine k_ci (k_rV (As := [.int (nI (1))]) (rest := []) M hW hS (c_X5_checked l D Z N0 g ad 1 (show 1 ≤ 1 by decide)) (cwV 1 hts gX5_opens_X5_checked rfl rfl rfl (by decide +kernel) ⟨Nat.le_of_ble_eq_true rfl, Nat.le_of_ble_eq_true rfl⟩) (r_recv M.2 hW 20 0 (lvM _) rfl rfl) rfl hl.1 rfl (Nat.le_of_ble_eq_true rfl) dX5_opens_6 ⟨Nat.le_of_ble_eq_true rfl, Nat.le_of_ble_eq_true rfl⟩) hS (fun r5_z g4_z H locs hp hW hS => ?_)
    obtain ⟨hf1, hp⟩ := hp
    have hf : Fr g g4_z := hf.trans hf1
    obtain ⟨hr9, eg4_z⟩ := hp
    have hr9 : r5_z = nI 0 := hr9
    subst hr9
    have eg4_z : g4_z = up g 20 0 20 0 := eg4_z
    refine n_if_ne (tgt := 24) hx hb (by decide) dX5_opens_9 (by decide) (fun h9 => absurd h9 (by decide)) (fun _ => ?_)
    refine lv_aload_n hx hb dX5_opens_12 rfl (lv_at hl 0 rfl) ?_
    refine lv_iload_n hx hb dX5_opens_13 rfl (lv_at hl 1 rfl) ?_
    refine k_ci (k_rV (As := [.int (nI (i))]) (rest := []) M hW hS (c_X5_isOpen l D Z N0 g4_z ad i (by omega)) (cwV 1 hts gX5_opens_X5_isOpen rfl rfl rfl (by decide +kernel) ⟨Nat.le_of_ble_eq_true rfl, Nat.le_of_ble_eq_true rfl⟩) (r_recv M.2 hW 20 0 (lvM _) rfl rfl) rfl hl.1 rfl (Nat.le_of_ble_eq_true rfl) dX5_opens_14 ⟨Nat.le_of_ble_eq_true rfl, Nat.le_of_ble_eq_true rfl⟩) hS (fun r8_z g7_z H locs hp hW hS => ?_)
    obtain ⟨hf1, hp⟩ := hp
    have hf : Fr g g7_z := hf.trans hf1
    obtain ⟨hp, hg⟩ := hp
    subst hg
    rcases hp with ⟨rfl, c9_z⟩ | ⟨rfl, c9_z⟩
    · refine n_if_eq (tgt := 24) hx hb (by decide) dX5_opens_17 (by decide) (fun h9 => absurd h9 (by decide)) (fun _ => ?_)
      refine lv_iconst (v := nI 1) hx hb dX5_opens_20 (by decide) ?_
      refine lv_goto (tgt := 25) hx hb dX5_opens_21 (by decide) ?_
      -- path 1
      exact W.zret (v := nI (1)) (ty := .boolean) hx hb hr (nar_b (show 1 ≤ 1 by decide)) (fun t ht hW9 => ⟨⟨nI (1), g4_z, rfl, ⟨hf, (by subst eg4_z; exact Or.inr ⟨i, hi, rfl, Or.inl ⟨rfl, c9_z⟩, rfl⟩)⟩, (show Wd D Z N0 g4_z ad t.heap by rw [ht]; exact hW)⟩, hS.F ht⟩) hS.2.2 dX5_opens_25
    · refine n_if_eq (tgt := 24) hx hb (by decide) dX5_opens_17 (by decide) (fun _ => ?_) (fun h9 => absurd h9 (by decide))
      refine lv_iconst (v := nI 0) hx hb dX5_opens_24 (by decide) ?_
      -- path 2
      exact W.zret (v := nI (0)) (ty := .boolean) hx hb hr (nar_b (show 0 ≤ 1 by decide)) (fun t ht hW9 => ⟨⟨nI (0), g4_z, rfl, ⟨hf, (by subst eg4_z; exact Or.inr ⟨i, hi, rfl, Or.inr ⟨rfl, c9_z⟩, rfl⟩)⟩, (show Wd D Z N0 g4_z ad t.heap by rw [ht]; exact hW)⟩, hS.F ht⟩) hS.2.2 dX5_opens_25
  · refine k_ci (k_rV (As := [.int (nI (0))]) (rest := []) M hW hS (c_X5_checked l D Z N0 g ad 0 (show 0 ≤ 1 by decide)) (cwV 1 hts gX5_opens_X5_checked rfl rfl rfl (by decide +kernel) ⟨Nat.le_of_ble_eq_true rfl, Nat.le_of_ble_eq_true rfl⟩) (r_recv M.2 hW 20 0 (lvM _) rfl rfl) rfl hl.1 rfl (Nat.le_of_ble_eq_true rfl) dX5_opens_6 ⟨Nat.le_of_ble_eq_true rfl, Nat.le_of_ble_eq_true rfl⟩) hS (fun r13_z g12_z H locs hp hW hS => ?_)
    obtain ⟨hf1, hp⟩ := hp
    have hf : Fr g g12_z := hf.trans hf1
    obtain ⟨hr9, eg12_z⟩ := hp
    have hr9 : r13_z = nI 1 := hr9
    subst hr9
    have eg12_z : g12_z = up g 20 0 20 1 := eg12_z
    refine n_if_ne (tgt := 24) hx hb (by decide) dX5_opens_9 (by decide) (fun _ => ?_) (fun h9 => absurd h9 (by decide))
    refine lv_iconst (v := nI 0) hx hb dX5_opens_24 (by decide) ?_
    -- path 3
    exact W.zret (v := nI (0)) (ty := .boolean) hx hb hr (nar_b (show 0 ≤ 1 by decide)) (fun t ht hW9 => ⟨⟨nI (0), g12_z, rfl, ⟨hf, (by subst eg12_z; exact Or.inl ⟨c3_z, rfl, rfl⟩)⟩, (show Wd D Z N0 g12_z ad t.heap by rw [ht]; exact hW)⟩, hS.F ht⟩) hS.2.2 dX5_opens_25

set_option maxHeartbeats 4000000 in
set_option maxRecDepth 100000 in
theorem c_X5_registerByLog (l : Launch) (D : va_G) (Z : Nat → Nat) (N0 : Nat) (g : T3) (ad : T2) (x : Int32) : Met l yX5_registerByLog wsX5_registerByLog ({ frames := 2, cells := 0, slots := 0, locals := 140 } : Room) (PC D Z N0 g ad [.ref (ad 20 0), .int (x)]) (QI D Z N0 ad (fun (r : Int32) (g1 : T3) => Fr g g1 ∧ ((¬ Ix 3 x ∧ r = nI 0 ∧ g1 = up g 20 0 20 1) ∨ (∃ i, i < 3 ∧ x = nI i ∧ r = nI (mrb g i (g 20 0 23)) ∧ g1 = up g 20 0 20 0)))) 0 0 (AA N0) := by
  refine Met.ofW (cc := cX5_registerByLog) (maxL := 4) (ret := (some .int)) (by decide) rfl ?_
  intro pP eP sP mP args below meth cP s₁ B hmlP hvP
  obtain ⟨rfl, hW, hC⟩ := hvP
  have hx := B.exec
  have hb := B.bytes
  have hr := B.returns
  have hts := atoms_spec (ws := wsX5_registerByLog) B.pre
  have hown : sP.vm.findClass RX5 = some mP.cls := findClass_of_methodNamed B.named
  have hlocks := B.notSynchronized
  have i_X5 : ∀ w ∈ wsX50, w ∈ wsX5_registerByLog := (fun _ h => List.mem_cons_of_mem _ (List.mem_append_left _ (List.mem_append_right _ h)))
  have k_82 : Cond.fieldLink RX5 82 "StartChainModel" "entries" "I" ∈ wsX5_registerByLog := by decide +kernel
  have k_44 : Cond.fieldLink RX5 44 "StartChainModel" "log" "[I" ∈ wsX5_registerByLog := by decide +kernel
  have M : Mx pP mP cP cX5_registerByLog 4 sP ([.ref (ad 20 0), .int (x)] : List Value).toArray wsX5_registerByLog RX5 D Z N0 := ⟨⟨hx, hb, hmlP, hown, hts⟩, hC⟩
  have hf : Fr g g := Fr.rf g
  have hS : va_S (AA N0) sP.heap sP.heap [] := va_S.rf
  have hl := lv_entry ([.ref (ad 20 0), .int (x)]) (n := 4) (Nat.le_of_ble_eq_true rfl)
  rw [lg_entry_eq]
  generalize (lg_sl ([.ref (ad 20 0), .int (x)]) ++ List.replicate (4 - (lg_sl ([.ref (ad 20 0), .int (x)])).length) Slot.unset).toArray = ls at hl ⊢
  have hl : lv_has ls 4 [(0, .ref (ad 20 0)), (1, .int (x))] := hl
  have hse9 := hW.2.2.1.le 20 0 23 11 rfl
  refine lv_aload_n hx hb dX5_registerByLog_0 rfl (lv_at hl 0 rfl) ?_
  refine lv_iload_n hx hb dX5_registerByLog_1 rfl (lv_at hl 1 rfl) ?_
  refine k_ci (k_rS (As := [.int (x)]) (rest := [.ref (ad 20 0)]) M hW hS (c_X5_isRegister l D Z N0 g ad (x)) (va_cwS 1 hts gX5_registerByLog_X5_isRegister rfl rfl rfl (by decide +kernel) ⟨Nat.le_of_ble_eq_true rfl, Nat.le_of_ble_eq_true rfl⟩) rfl hl.1 rfl (Nat.le_of_ble_eq_true rfl) dX5_registerByLog_2 ⟨Nat.le_of_ble_eq_true rfl, Nat.le_of_ble_eq_true rfl⟩) hS (fun r2_z g1_z H locs hp hW hS => ?_)
  obtain ⟨hf1, hp⟩ := hp
  have hf : Fr g g1_z := hf.trans hf1
  obtain ⟨hp, hg⟩ := hp
  subst hg
  rcases hp with ⟨rfl, c3_z⟩ | ⟨rfl, c3_z⟩
  · obtain ⟨i, hi, rfl⟩ := c3_z
    refine k_ci (k_rV (As := [.int (nI (1))]) (rest := []) M hW hS (c_X5_checked l D Z N0 g ad 1 (show 1 ≤ 1 by decide)) (cwV 1 hts gX5_registerByLog_X5_checked rfl rfl rfl (by decide +kernel) ⟨Nat.le_of_ble_eq_true rfl, Nat.le_of_ble_eq_true rfl⟩) (r_recv M.2 hW 20 0 (lvM _) rfl rfl) rfl hl.1 rfl (Nat.le_of_ble_eq_true rfl) dX5_registerByLog_5 ⟨Nat.le_of_ble_eq_true rfl, Nat.le_of_ble_eq_true rfl⟩) hS (fun r5_z g4_z H locs hp hW hS => ?_)
    obtain ⟨hf1, hp⟩ := hp
    have hf : Fr g g4_z := hf.trans hf1
    obtain ⟨hr9, eg4_z⟩ := hp
    have hr9 : r5_z = nI 0 := hr9
    subst hr9
    have eg4_z : g4_z = up g 20 0 20 0 := eg4_z
    refine n_if_le (tgt := 13) hx hb (by decide) dX5_registerByLog_8 (by decide) (fun _ => ?_) (fun h9 => absurd h9 (by decide))
    refine lv_iconst (v := nI 0) hx hb dX5_registerByLog_13 (by decide) ?_
    refine lv_istore_n (lv' := [(2, .int (nI (0))), (0, .ref (ad 20 0)), (1, .int (nI (i)))]) hx hb dX5_registerByLog_14 rfl hl (by decide) rfl (fun ls hl => ?_)
    refine lv_iconst (v := nI 0) hx hb dX5_registerByLog_15 (by decide) ?_
    refine lv_istore_n (lv' := [(3, .int (nI (0))), (2, .int (nI (0))), (0, .ref (ad 20 0)), (1, .int (nI (i)))]) hx hb dX5_registerByLog_16 rfl hl (by decide) rfl (fun ls hl => ?_)
    refine k_loop (D := D) (Z := Z) (N0 := N0) (ad := ad) (g0 := g4_z) (σ := Nat) (a0 := 0) (g 20 0 23) 4 (0) (fun k gk a => Fr g gk ∧ (gk = up g 20 0 20 0 ∧ a = mrb g i k)) (fun k a => [(3, .int (nI (k))), (2, .int (nI (a))), (0, .ref (ad 20 0)), (1, .int (nI (i)))]) (Nat.zero_le _) ⟨hf, ⟨eg4_z, rfl⟩⟩ hW hS (lv_sub hl [0, 1, 2, 3] rfl) (fun n k gk a H locs ls hkn hI hW hS hl ih => ?_)
    obtain ⟨hf, hI⟩ := hI
    obtain ⟨hIg, hI⟩ := hI; have h32 : ∀ q, gk 32 0 q = g 32 0 q := fun q => by rw [hIg]; rfl
    have h23 : gk 20 0 23 = g 20 0 23 := by rw [hIg]; rfl
    have ha9 : a ≤ 9972 := by rw [hI]; exact mrb_le _ _ _
    refine lv_iload_n hx hb dX5_registerByLog_17 rfl (lv_at hl 0 rfl) ?_
    refine lv_aload_n hx hb dX5_registerByLog_18 rfl (lv_at hl 2 rfl) ?_
    have b7_z : gk 20 0 23 ≤ 12 := hW.2.2.1.le 20 0 23 11 rfl
    refine r_get M hW 20 0 (lvM _) (v := .int (nI (gk 20 0 23))) rfl rfl i_X5 23 (by decide) k_82 (fun _ h9 => h9) rfl dX5_registerByLog_19 ?_
    refine n_icmp_ge (tgt := 60) hx hb (by omega) (Nat.lt_of_le_of_lt b7_z (by decide)) dX5_registerByLog_22 (by decide) (fun c8_z => ?_) (fun c8_z => ?_)
    · refine lv_iload_n hx hb dX5_registerByLog_60 rfl (lv_at hl 1 rfl) ?_
      -- path 1
      exact W.iret (v := nI (a)) hx hb hr (fun t ht hW9 => ⟨⟨nI (a), gk, rfl, ⟨hf, Or.inr ⟨i, hi, rfl, congrArg nI (by rw [hI, show k = g 20 0 23 by omega]), hIg⟩⟩, (show Wd D Z N0 gk ad t.heap by rw [ht]; exact hW)⟩, hS.F ht⟩) hS.2.2 dX5_registerByLog_61
    · refine lv_aload_n hx hb dX5_registerByLog_25 rfl (lv_at hl 2 rfl) ?_
      refine r_get M hW 20 0 (lvM _) (v := .ref (ad 32 0)) rfl rfl i_X5 11 (by decide) k_44 (fun _ h9 => h9) rfl dX5_registerByLog_26 ?_
      refine lv_iload_n hx hb dX5_registerByLog_29 rfl (lv_at hl 0 rfl) ?_
      refine r_iald M hW 32 0 ⟨rfl, by decide, by decide⟩ (n := 12) rfl (by omega) (by decide) dX5_registerByLog_30 ?_
      have b9_z : gk 32 0 k ≤ 2999 := hW.2.2.1.le 32 0 k 2998 rfl
      refine lv_sipush (v := nI 1000) hx hb dX5_registerByLog_31 (by decide) ?_
      refine n_idiv hx hb (Nat.lt_of_le_of_lt b9_z (by decide)) (by decide) (by decide) dX5_registerByLog_34 ?_
      refine lv_iload_n hx hb dX5_registerByLog_35 rfl (lv_at hl 3 rfl) ?_
      refine n_icmp_ne (tgt := 54) hx hb (by omega) (Nat.lt_of_le_of_lt (Nat.le_of_lt_succ hi) (by decide)) dX5_registerByLog_36 (by decide) (fun c10_z => ?_) (fun c10_z => ?_)
      · refine lv_iinc (v := nI (k + 1)) (lv' := [(3, .int (nI (k + 1))), (2, .int (nI (a))), (0, .ref (ad 20 0)), (1, .int (nI (i)))]) hx hb dX5_registerByLog_54 hl (k := 0) rfl (nI_add _ _) (by decide) rfl (fun ls hl => ?_)
        refine lv_goto (tgt := 17) hx hb dX5_registerByLog_57 (by decide) ?_
        exact ih (by omega) gk (a) _ _ _ ⟨hf, ⟨hIg, (by show _ = (if g 32 0 k / 1000 = i then (31 * mrb g i k + g 32 0 k % 1000 + 1) % 9973 else mrb g i k); rw [← h32 k, if_neg c10_z, ← hI]; try rfl)⟩⟩ hW hS (lv_sub hl [0, 1, 2, 3] rfl)
      · refine lv_iload_n hx hb dX5_registerByLog_39 rfl (lv_at hl 1 rfl) ?_
        refine lv_aload_n hx hb dX5_registerByLog_40 rfl (lv_at hl 2 rfl) ?_
        refine r_get M hW 20 0 (lvM _) (v := .ref (ad 32 0)) rfl rfl i_X5 11 (by decide) k_44 (fun _ h9 => h9) rfl dX5_registerByLog_41 ?_
        refine lv_iload_n hx hb dX5_registerByLog_44 rfl (lv_at hl 0 rfl) ?_
        refine r_iald M hW 32 0 ⟨rfl, by decide, by decide⟩ (n := 12) rfl (by omega) (by decide) dX5_registerByLog_45 ?_
        have b11_z : gk 32 0 k ≤ 2999 := hW.2.2.1.le 32 0 k 2998 rfl
        refine lv_sipush (v := nI 1000) hx hb dX5_registerByLog_46 (by decide) ?_
        refine n_irem hx hb (Nat.lt_of_le_of_lt b11_z (by decide)) (by decide) (by decide) dX5_registerByLog_49 ?_
        refine k_ci (k_rS (As := [.int (nI (a)), .int (nI ((gk 32 0 k) % 1000))]) (rest := []) M hW hS (c_X5_extended l D Z N0 gk ad a ((gk 32 0 k) % 1000) (show a ≤ 9972 by omega) (show (gk 32 0 k) % 1000 ≤ 999 by omega)) (va_cwS 2 hts gX5_registerByLog_X5_extended rfl rfl rfl (by decide +kernel) ⟨Nat.le_of_ble_eq_true rfl, Nat.le_of_ble_eq_true rfl⟩) rfl hl.1 rfl (Nat.le_of_ble_eq_true rfl) dX5_registerByLog_50 ⟨Nat.le_of_ble_eq_true rfl, Nat.le_of_ble_eq_true rfl⟩) hS (fun r13_z g12_z H locs hp hW hS => ?_)
        obtain ⟨hf1, hp⟩ := hp
        have hf : Fr g g12_z := hf.trans hf1
        obtain ⟨rfl, hg⟩ := hp
        subst hg
        have b14_z : (31 * a + ((gk 32 0 k) % 1000) + 1) % 9973 ≤ 9972 := by omega
        refine lv_istore_n (lv' := [(2, .int (nI ((31 * a + ((gk 32 0 k) % 1000) + 1) % 9973))), (3, .int (nI (k))), (0, .ref (ad 20 0)), (1, .int (nI (i)))]) hx hb dX5_registerByLog_53 rfl hl (by decide) rfl (fun ls hl => ?_)
        refine lv_iinc (v := nI (k + 1)) (lv' := [(3, .int (nI (k + 1))), (2, .int (nI ((31 * a + ((gk 32 0 k) % 1000) + 1) % 9973))), (0, .ref (ad 20 0)), (1, .int (nI (i)))]) hx hb dX5_registerByLog_54 hl (k := 1) rfl (nI_add _ _) (by decide) rfl (fun ls hl => ?_)
        refine lv_goto (tgt := 17) hx hb dX5_registerByLog_57 (by decide) ?_
        exact ih (by omega) gk ((31 * a + ((gk 32 0 k) % 1000) + 1) % 9973) _ _ _ ⟨hf, ⟨hIg, (by show _ = (if g 32 0 k / 1000 = i then (31 * mrb g i k + g 32 0 k % 1000 + 1) % 9973 else mrb g i k); rw [← h32 k, if_pos c10_z, ← hI]; try rfl)⟩⟩ hW hS (lv_sub hl [0, 1, 2, 3] rfl)
  · refine k_ci (k_rV (As := [.int (nI (0))]) (rest := []) M hW hS (c_X5_checked l D Z N0 g ad 0 (show 0 ≤ 1 by decide)) (cwV 1 hts gX5_registerByLog_X5_checked rfl rfl rfl (by decide +kernel) ⟨Nat.le_of_ble_eq_true rfl, Nat.le_of_ble_eq_true rfl⟩) (r_recv M.2 hW 20 0 (lvM _) rfl rfl) rfl hl.1 rfl (Nat.le_of_ble_eq_true rfl) dX5_registerByLog_5 ⟨Nat.le_of_ble_eq_true rfl, Nat.le_of_ble_eq_true rfl⟩) hS (fun r16_z g15_z H locs hp hW hS => ?_)
    obtain ⟨hf1, hp⟩ := hp
    have hf : Fr g g15_z := hf.trans hf1
    obtain ⟨hr9, eg15_z⟩ := hp
    have hr9 : r16_z = nI 1 := hr9
    subst hr9
    have eg15_z : g15_z = up g 20 0 20 1 := eg15_z
    refine n_if_le (tgt := 13) hx hb (by decide) dX5_registerByLog_8 (by decide) (fun h9 => absurd h9 (by decide)) (fun _ => ?_)
    refine lv_iconst (v := nI 0) hx hb dX5_registerByLog_11 (by decide) ?_
    -- path 2
    exact W.iret (v := nI (0)) hx hb hr (fun t ht hW9 => ⟨⟨nI (0), g15_z, rfl, ⟨hf, (by subst eg15_z; exact Or.inl ⟨c3_z, rfl, rfl⟩)⟩, (show Wd D Z N0 g15_z ad t.heap by rw [ht]; exact hW)⟩, hS.F ht⟩) hS.2.2 dX5_registerByLog_12

set_option maxHeartbeats 4000000 in
set_option maxRecDepth 100000 in
theorem c_X5_commit (l : Launch) (D : va_G) (Z : Nat → Nat) (N0 : Nat) (g : T3) (ad : T2) : Met l yX5_commit wsX5_commit ({ frames := 1, cells := 0, slots := 0, locals := 100 } : Room) (PC D Z N0 g ad [.ref (ad 20 0)]) (QI D Z N0 ad (fun (r : Int32) (g1 : T3) => Fr g g1 ∧ ((¬ g 20 0 19 = 114 ∧ r = nI 0 ∧ g1 = up g 20 0 20 1) ∨ (g 20 0 19 = 114 ∧ r = nI (mCm (up g 20 0 20 0) (g 20 0 21)).1 ∧ g1 = (mCm (up g 20 0 20 0) (g 20 0 21)).2)))) 0 0 (AA N0) := by
  refine Met.ofW (cc := cX5_commit) (maxL := 3) (ret := (some .int)) (by decide) rfl ?_
  intro pP eP sP mP args below meth cP s₁ B hmlP hvP
  obtain ⟨rfl, hW, hC⟩ := hvP
  have hx := B.exec
  have hb := B.bytes
  have hr := B.returns
  have hts := atoms_spec (ws := wsX5_commit) B.pre
  have hown : sP.vm.findClass RX5 = some mP.cls := findClass_of_methodNamed B.named
  have hlocks := B.notSynchronized
  have i_X5 : ∀ w ∈ wsX50, w ∈ wsX5_commit := (fun _ h => List.mem_cons_of_mem _ (List.mem_append_left _ (List.mem_append_right _ h)))
  have k_68 : Cond.fieldLink RX5 68 "StartChainModel" "state" "C" ∈ wsX5_commit := by decide +kernel
  have k_76 : Cond.fieldLink RX5 76 "StartChainModel" "stages" "I" ∈ wsX5_commit := by decide +kernel
  have k_41 : Cond.fieldLink RX5 41 "StartChainModel" "ranVersions" "[I" ∈ wsX5_commit := by decide +kernel
  have k_26 : Cond.fieldLink RX5 26 "StartChainModel" "counters" "[I" ∈ wsX5_commit := by decide +kernel
  have M : Mx pP mP cP cX5_commit 3 sP ([.ref (ad 20 0)] : List Value).toArray wsX5_commit RX5 D Z N0 := ⟨⟨hx, hb, hmlP, hown, hts⟩, hC⟩
  have hf : Fr g g := Fr.rf g
  have hS : va_S (AA N0) sP.heap sP.heap [] := va_S.rf
  have hl := lv_entry ([.ref (ad 20 0)]) (n := 3) (Nat.le_of_ble_eq_true rfl)
  rw [lg_entry_eq]
  generalize (lg_sl ([.ref (ad 20 0)]) ++ List.replicate (3 - (lg_sl ([.ref (ad 20 0)])).length) Slot.unset).toArray = ls at hl ⊢
  have hl : lv_has ls 3 [(0, .ref (ad 20 0))] := hl
  have hsz9 := hW.2.2.1.le 20 0 21 5 rfl
  refine lv_aload_n hx hb dX5_commit_0 rfl (lv_at hl 0 rfl) ?_
  refine lv_aload_n hx hb dX5_commit_1 rfl (lv_at hl 0 rfl) ?_
  have b1_z : g 20 0 19 ≤ 127 := hW.2.2.1.le 20 0 19 126 rfl
  refine r_get M hW 20 0 (lvM _) (v := .int (nI (g 20 0 19))) rfl rfl i_X5 19 (by decide) k_68 (fun _ h9 => h9) rfl dX5_commit_2 ?_
  refine lv_bipush (v := nI 114) hx hb dX5_commit_5 (by decide) ?_
  refine n_icmp_ne (tgt := 14) hx hb (Nat.lt_of_le_of_lt b1_z (by decide)) (by decide) dX5_commit_7 (by decide) (fun c2_z => ?_) (fun c2_z => ?_)
  · refine lv_iconst (v := nI 0) hx hb dX5_commit_14 (by decide) ?_
    refine k_ci (k_rV (As := [.int (nI (0))]) (rest := []) M hW hS (c_X5_checked l D Z N0 g ad 0 (show 0 ≤ 1 by decide)) (cwV 1 hts gX5_commit_X5_checked rfl rfl rfl (by decide +kernel) ⟨Nat.le_of_ble_eq_true rfl, Nat.le_of_ble_eq_true rfl⟩) (r_recv M.2 hW 20 0 (lvM _) rfl rfl) rfl hl.1 rfl (Nat.le_of_ble_eq_true rfl) dX5_commit_15 ⟨Nat.le_of_ble_eq_true rfl, Nat.le_of_ble_eq_true rfl⟩) hS (fun r4_z g3_z H locs hp hW hS => ?_)
    obtain ⟨hf1, hp⟩ := hp
    have hf : Fr g g3_z := hf.trans hf1
    obtain ⟨hr9, eg3_z⟩ := hp
    have hr9 : r4_z = nI 1 := hr9
    subst hr9
    have eg3_z : g3_z = up g 20 0 20 1 := eg3_z
    refine n_if_le (tgt := 23) hx hb (by decide) dX5_commit_18 (by decide) (fun h9 => absurd h9 (by decide)) (fun _ => ?_)
    refine lv_iconst (v := nI 0) hx hb dX5_commit_21 (by decide) ?_
    -- path 1
    exact W.iret (v := nI (0)) hx hb hr (fun t ht hW9 => ⟨⟨nI (0), g3_z, rfl, ⟨hf, (by subst eg3_z; exact Or.inl ⟨c2_z, rfl, rfl⟩)⟩, (show Wd D Z N0 g3_z ad t.heap by rw [ht]; exact hW)⟩, hS.F ht⟩) hS.2.2 dX5_commit_22
  · refine lv_iconst (v := nI 1) hx hb dX5_commit_10 (by decide) ?_
    refine lv_goto (tgt := 15) hx hb dX5_commit_11 (by decide) ?_
    refine k_ci (k_rV (As := [.int (nI (1))]) (rest := []) M hW hS (c_X5_checked l D Z N0 g ad 1 (show 1 ≤ 1 by decide)) (cwV 1 hts gX5_commit_X5_checked rfl rfl rfl (by decide +kernel) ⟨Nat.le_of_ble_eq_true rfl, Nat.le_of_ble_eq_true rfl⟩) (r_recv M.2 hW 20 0 (lvM _) rfl rfl) rfl hl.1 rfl (Nat.le_of_ble_eq_true rfl) dX5_commit_15 ⟨Nat.le_of_ble_eq_true rfl, Nat.le_of_ble_eq_true rfl⟩) hS (fun r7_z g6_z H locs hp hW hS => ?_)
    obtain ⟨hf1, hp⟩ := hp
    have hf : Fr g g6_z := hf.trans hf1
    obtain ⟨hr9, eg6_z⟩ := hp
    have hr9 : r7_z = nI 0 := hr9
    subst hr9
    have eg6_z : g6_z = up g 20 0 20 0 := eg6_z
    refine n_if_le (tgt := 23) hx hb (by decide) dX5_commit_18 (by decide) (fun _ => ?_) (fun h9 => absurd h9 (by decide))
    refine lv_iconst (v := nI 0) hx hb dX5_commit_23 (by decide) ?_
    refine lv_istore_n (lv' := [(1, .int (nI (0))), (0, .ref (ad 20 0))]) hx hb dX5_commit_24 rfl hl (by decide) rfl (fun ls hl => ?_)
    refine lv_iconst (v := nI 0) hx hb dX5_commit_25 (by decide) ?_
    refine lv_istore_n (lv' := [(2, .int (nI (0))), (1, .int (nI (0))), (0, .ref (ad 20 0))]) hx hb dX5_commit_26 rfl hl (by decide) rfl (fun ls hl => ?_)
    refine k_loop (D := D) (Z := Z) (N0 := N0) (ad := ad) (g0 := g6_z) (σ := Nat) (a0 := 0) (g 20 0 21) 3 (0) (fun k gk a => Fr g gk ∧ (a = (mCm (up g 20 0 20 0) k).1 ∧ gk = (mCm (up g 20 0 20 0) k).2 ∧ gk 20 0 21 = g 20 0 21)) (fun k a => [(2, .int (nI (k))), (1, .int (nI (a))), (0, .ref (ad 20 0))]) (Nat.zero_le _) ⟨hf, ⟨rfl, eg6_z, by rw [eg6_z]; rfl⟩⟩ hW hS (lv_sub hl [0, 1, 2] rfl) (fun n k gk a H locs ls hkn hI hW hS hl ih => ?_)
    obtain ⟨hf, hI⟩ := hI
    obtain ⟨hIa, hIg, hn9⟩ := hI
    refine lv_iload_n hx hb dX5_commit_27 rfl (lv_at hl 0 rfl) ?_
    refine lv_aload_n hx hb dX5_commit_28 rfl (lv_at hl 2 rfl) ?_
    have b9_z : gk 20 0 21 ≤ 6 := hW.2.2.1.le 20 0 21 5 rfl
    refine r_get M hW 20 0 (lvM _) (v := .int (nI (gk 20 0 21))) rfl rfl i_X5 21 (by decide) k_76 (fun _ h9 => h9) rfl dX5_commit_29 ?_
    refine n_icmp_ge (tgt := 74) hx hb (by omega) (Nat.lt_of_le_of_lt b9_z (by decide)) dX5_commit_32 (by decide) (fun c10_z => ?_) (fun c10_z => ?_)
    · refine lv_iload_n hx hb dX5_commit_74 rfl (lv_at hl 1 rfl) ?_
      -- path 2
      exact W.iret (v := nI (a)) hx hb hr (fun t ht hW9 => ⟨⟨nI (a), gk, rfl, ⟨hf, Or.inr ⟨c2_z, by rw [← show k = g 20 0 21 by omega]; exact ⟨congrArg nI hIa, hIg⟩⟩⟩, (show Wd D Z N0 gk ad t.heap by rw [ht]; exact hW)⟩, hS.F ht⟩) hS.2.2 dX5_commit_75
    · refine lv_aload_n hx hb dX5_commit_35 rfl (lv_at hl 2 rfl) ?_
      refine r_get M hW 20 0 (lvM _) (v := .ref (ad 31 0)) rfl rfl i_X5 10 (by decide) k_41 (fun _ h9 => h9) rfl dX5_commit_36 ?_
      refine lv_iload_n hx hb dX5_commit_39 rfl (lv_at hl 0 rfl) ?_
      refine r_iald M hW 31 0 ⟨rfl, by decide, by decide⟩ (n := 6) rfl (by omega) (by decide) dX5_commit_40 ?_
      have b11_z : gk 31 0 k ≤ 99 := hW.2.2.1.le 31 0 k 98 rfl
      refine lv_aload_n hx hb dX5_commit_41 rfl (lv_at hl 2 rfl) ?_
      refine r_get M hW 20 0 (lvM _) (v := .ref (ad 26 0)) rfl rfl i_X5 5 (by decide) k_26 (fun _ h9 => h9) rfl dX5_commit_42 ?_
      refine lv_iload_n hx hb dX5_commit_45 rfl (lv_at hl 0 rfl) ?_
      refine r_iald M hW 26 0 ⟨rfl, by decide, by decide⟩ (n := 6) rfl (by omega) (by decide) dX5_commit_46 ?_
      have b12_z : gk 26 0 k ≤ 99 := hW.2.2.1.le 26 0 k 98 rfl
      refine n_icmp_gt (tgt := 53) hx hb (Nat.lt_of_le_of_lt b11_z (by decide)) (Nat.lt_of_le_of_lt b12_z (by decide)) dX5_commit_47 (by decide) (fun c13_z => ?_) (fun c13_z => ?_)
      · refine lv_aload_n hx hb dX5_commit_53 rfl (lv_at hl 2 rfl) ?_
        refine r_get M hW 20 0 (lvM _) (v := .ref (ad 26 0)) rfl rfl i_X5 5 (by decide) k_26 (fun _ h9 => h9) rfl dX5_commit_54 ?_
        refine lv_iload_n hx hb dX5_commit_57 rfl (lv_at hl 0 rfl) ?_
        refine lv_aload_n hx hb dX5_commit_58 rfl (lv_at hl 2 rfl) ?_
        refine r_get M hW 20 0 (lvM _) (v := .ref (ad 31 0)) rfl rfl i_X5 10 (by decide) k_41 (fun _ h9 => h9) rfl dX5_commit_59 ?_
        refine lv_iload_n hx hb dX5_commit_62 rfl (lv_at hl 0 rfl) ?_
        refine r_iald M hW 31 0 ⟨rfl, by decide, by decide⟩ (n := 6) rfl (by omega) (by decide) dX5_commit_63 ?_
        have b14_z : gk 31 0 k ≤ 99 := hW.2.2.1.le 31 0 k 98 rfl
        refine r_ist M hW hS 26 0 ⟨rfl, by decide, by decide⟩ (n := 6) (fun _ => rfl) (by omega) (by decide) rfl (Or.inr b14_z) dX5_commit_64 (fun H locs hW hS => ?_)
        obtain ⟨g15_z, eg15_z⟩ : ∃ z, z = up gk 26 0 k (gk 31 0 k) := ⟨_, rfl⟩
        rw [← eg15_z] at hW
        have hf : Fr g g15_z := by rw [eg15_z]; exact hf.up rfl
        refine lv_iinc (v := nI (a + 1)) (lv' := [(1, .int (nI (a + 1))), (2, .int (nI (k))), (0, .ref (ad 20 0))]) hx hb dX5_commit_65 hl (k := 1) rfl (nI_add _ _) (by decide) rfl (fun ls hl => ?_)
        refine lv_iinc (v := nI (k + 1)) (lv' := [(2, .int (nI (k + 1))), (1, .int (nI (a + 1))), (0, .ref (ad 20 0))]) hx hb dX5_commit_68 hl (k := 1) rfl (nI_add _ _) (by decide) rfl (fun ls hl => ?_)
        refine lv_goto (tgt := 27) hx hb dX5_commit_71 (by decide) ?_
        exact ih (by omega) g15_z (a + 1) _ _ _ ⟨hf, ⟨by rw [mCm_1 (by rw [← hIg]; omega)]; exact congrArg (· + 1) hIa, by rw [mCm_1 (by rw [← hIg]; omega), eg15_z, hIg]; try rfl, by rw [eg15_z]; exact hn9⟩⟩ hW hS (lv_sub hl [0, 1, 2] rfl)
      · refine lv_goto (tgt := 68) hx hb dX5_commit_50 (by decide) ?_
        refine lv_iinc (v := nI (k + 1)) (lv' := [(2, .int (nI (k + 1))), (1, .int (nI (a))), (0, .ref (ad 20 0))]) hx hb dX5_commit_68 hl (k := 0) rfl (nI_add _ _) (by decide) rfl (fun ls hl => ?_)
        refine lv_goto (tgt := 27) hx hb dX5_commit_71 (by decide) ?_
        exact ih (by omega) gk (a) _ _ _ ⟨hf, ⟨by rw [mCm_0 (by rw [← hIg]; omega)]; exact hIa, by rw [mCm_0 (by rw [← hIg]; omega)]; exact hIg, hn9⟩⟩ hW hS (lv_sub hl [0, 1, 2] rfl)
