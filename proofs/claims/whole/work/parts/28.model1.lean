/-! THE MODEL'S METHODS. -/
def mRe (g : T3) (i s : Nat) : Nat :=
  if g 27 0 (2 * i + s) = 0 then 101 else if g 21 0 (g 27 0 (2 * i + s)) = 0 then 107 else if g 26 0 i ≤ g 28 0 (2 * i + s) then (if g 22 0 (2 * i + s) = 0 then 45 else 98) else 118
theorem mRe_le (g : T3) (i s : Nat) : mRe g i s ≤ 127 := by
  unfold mRe
  repeat' split
  all_goals omega
def mMe (g : T3) (i s : Nat) : T3 :=
  let g1 := up g 35 0 (g 20 0 26) (1000 * g 24 0 i + g 29 0 (2 * i + s))
  let g2 := up g1 20 0 26 (g1 20 0 26 + 1)
  up g2 36 0 (g 24 0 i) ((31 * g2 36 0 (g 24 0 i) + g2 29 0 (2 * i + s) + 1) % 9973)
def mTr (g : T3) (i s : Nat) : Nat × T3 := if mRe g i s = 98 then (0, mMe g i s) else if mRe g i s = 45 then (1, up (mMe g i s) 34 0 i s) else (0, g)
theorem mTr_le (g : T3) (i s : Nat) : (mTr g i s).1 ≤ 1 := by
  unfold mTr
  repeat' split
  all_goals first | exact Nat.zero_le _ | exact Nat.le_refl _
def insS (g : T3) (i : Nat) : Nat := if g 27 0 (2 * i + g 25 0 i) = 0 then g 25 0 i else 1 - g 25 0 i
def insG (g : T3) (i k v q s : Nat) : T3 := up (up (up (up (up (up g 20 0 20 0) 27 0 (2 * i + s) k) 28 0 (2 * i + s) v) 29 0 (2 * i + s) q) 22 0 (2 * i + s) 0) 25 0 i s
def bV (g : T3) (b q : Nat) : Nat := if b = 0 then g 33 0 q else g 36 0 q
def mSe (g : T3) (j b : Nat) : Nat → T3
  | 0 => g
  | k + 1 => up (mSe g j b k) 39 0 (3 * j + k) (bV (mSe g j b k) b k)
def mOt (g : T3) (j b : Nat) : Nat := sumN (fun q => if bit (g 37 0 j) q = 1 ∧ ¬ g 39 0 (3 * j + q) = bV g b q then 1 else 0) 3
theorem mOt_le (g : T3) (j b : Nat) : mOt g j b ≤ 3 := sumN_le (b := 1) (fun k => by split <;> omega) 3
def mO (g : T3) (j : Nat) : Prop := g 20 0 19 = 114 ∧ mOt g j 0 = 0
def mAg (g : T3) : Nat := sumN (fun q => if g 23 0 q = 0 then 0 else 1) 5
theorem mAg_le (g : T3) : mAg g ≤ 5 := sumN_le (b := 1) (fun k => by split <;> omega) 5
set_option maxHeartbeats 4000000 in
set_option maxRecDepth 100000 in
theorem c_X5_thrown (l : Launch) (D : va_G) (Z : Nat → Nat) (N0 : Nat) (g : T3) (ad : T2) : Met l yX5_thrown wsX5_thrown ({ frames := 0, cells := 0, slots := 0, locals := 60 } : Room) (PC D Z N0 g ad [.ref (ad 20 0)]) (QI D Z N0 ad (fun (r : Int32) (g1 : T3) => Fr g g1 ∧ (r = nI (g 20 0 20) ∧ g = g1))) 0 0 (AA N0) := by
  refine Met.ofW (cc := cX5_thrown) (maxL := 1) (ret := (some .int)) (by decide) rfl ?_
  intro pP eP sP mP args below meth cP s₁ B hmlP hvP
  obtain ⟨rfl, hW, hC⟩ := hvP
  have hx := B.exec
  have hb := B.bytes
  have hr := B.returns
  have hts := atoms_spec (ws := wsX5_thrown) B.pre
  have hown : sP.vm.findClass RX5 = some mP.cls := findClass_of_methodNamed B.named
  have hlocks := B.notSynchronized
  have i_X5 : ∀ w ∈ wsX50, w ∈ wsX5_thrown := (fun _ h => List.mem_cons_of_mem _ (List.mem_append_right _ h))
  have k_72 : Cond.fieldLink RX5 72 "StartChainModel" "thrown" "I" ∈ wsX5_thrown := by decide +kernel
  have M : Mx pP mP cP cX5_thrown 1 sP ([.ref (ad 20 0)] : List Value).toArray wsX5_thrown RX5 D Z N0 := ⟨⟨hx, hb, hmlP, hown, hts⟩, hC⟩
  have hf : Fr g g := Fr.rf g
  have hS : va_S (AA N0) sP.heap sP.heap [] := va_S.rf
  have hl := lv_entry ([.ref (ad 20 0)]) (n := 1) (Nat.le_of_ble_eq_true rfl)
  rw [lg_entry_eq]
  generalize (lg_sl ([.ref (ad 20 0)]) ++ List.replicate (1 - (lg_sl ([.ref (ad 20 0)])).length) Slot.unset).toArray = ls at hl ⊢
  have hl : lv_has ls 1 [(0, .ref (ad 20 0))] := hl
  refine lv_aload_n hx hb dX5_thrown_0 rfl (lv_at hl 0 rfl) ?_
  have b1_z : g 20 0 20 ≤ 3 := hW.2.2.1.le 20 0 20 2 rfl
  refine r_get M hW 20 0 (lvM _) (v := .int (nI (g 20 0 20))) rfl rfl i_X5 20 (by decide) k_72 (fun _ h9 => h9) rfl dX5_thrown_1 ?_
  -- path 1
  exact W.iret (v := nI (g 20 0 20)) hx hb hr (fun t ht hW9 => ⟨⟨nI (g 20 0 20), g, rfl, ⟨hf, ⟨rfl, rfl⟩⟩, (show Wd D Z N0 g ad t.heap by rw [ht]; exact hW)⟩, hS.F ht⟩) hS.2.2 dX5_thrown_4

set_option maxHeartbeats 4000000 in
set_option maxRecDepth 100000 in
theorem c_X5_plain (l : Launch) (D : va_G) (Z : Nat → Nat) (N0 : Nat) (g : T3) (ad : T2) (v : Nat) : Met l yX5_plain wsX5_plain ({ frames := 0, cells := 0, slots := 0, locals := 60 } : Room) (PC D Z N0 g ad [.ref (ad 20 0), .int (nI (v))]) (QI D Z N0 ad (fun (r : Int32) (g1 : T3) => Fr g g1 ∧ (r = nI v ∧ g1 = up g 20 0 20 0))) 0 0 (AA N0) := by
  refine Met.ofW (cc := cX5_plain) (maxL := 2) (ret := (some .int)) (by decide) rfl ?_
  intro pP eP sP mP args below meth cP s₁ B hmlP hvP
  obtain ⟨rfl, hW, hC⟩ := hvP
  have hx := B.exec
  have hb := B.bytes
  have hr := B.returns
  have hts := atoms_spec (ws := wsX5_plain) B.pre
  have hown : sP.vm.findClass RX5 = some mP.cls := findClass_of_methodNamed B.named
  have hlocks := B.notSynchronized
  have i_X5 : ∀ w ∈ wsX50, w ∈ wsX5_plain := (fun _ h => List.mem_cons_of_mem _ (List.mem_append_right _ h))
  have k_72 : Cond.fieldLink RX5 72 "StartChainModel" "thrown" "I" ∈ wsX5_plain := by decide +kernel
  have M : Mx pP mP cP cX5_plain 2 sP ([.ref (ad 20 0), .int (nI (v))] : List Value).toArray wsX5_plain RX5 D Z N0 := ⟨⟨hx, hb, hmlP, hown, hts⟩, hC⟩
  have hf : Fr g g := Fr.rf g
  have hS : va_S (AA N0) sP.heap sP.heap [] := va_S.rf
  have hl := lv_entry ([.ref (ad 20 0), .int (nI (v))]) (n := 2) (Nat.le_of_ble_eq_true rfl)
  rw [lg_entry_eq]
  generalize (lg_sl ([.ref (ad 20 0), .int (nI (v))]) ++ List.replicate (2 - (lg_sl ([.ref (ad 20 0), .int (nI (v))])).length) Slot.unset).toArray = ls at hl ⊢
  have hl : lv_has ls 2 [(0, .ref (ad 20 0)), (1, .int (nI (v)))] := hl
  refine lv_aload_n hx hb dX5_plain_0 rfl (lv_at hl 0 rfl) ?_
  refine lv_iconst (v := nI 0) hx hb dX5_plain_1 (by decide) ?_
  refine r_put M hW hS 20 0 (lvM _) rfl rfl i_X5 tyX5 tyX5_ok nmX5 20 (by decide) k_72 (fun _ h9 => h9) rfl (ty := .int) (by decide +kernel) rfl rfl (Nat.le_of_ble_eq_true rfl) rfl rfl (Or.inr (show 0 ≤ 3 by decide)) dX5_plain_2 (fun H locs hW hS => ?_)
  obtain ⟨g1_z, eg1_z⟩ : ∃ z, z = up g 20 0 20 0 := ⟨_, rfl⟩
  rw [← eg1_z] at hW
  have hf : Fr g g1_z := by rw [eg1_z]; exact hf.up rfl
  refine lv_iload_n hx hb dX5_plain_5 rfl (lv_at hl 1 rfl) ?_
  -- path 1
  exact W.iret (v := nI (v)) hx hb hr (fun t ht hW9 => ⟨⟨nI (v), g1_z, rfl, ⟨hf, ⟨rfl, eg1_z⟩⟩, (show Wd D Z N0 g1_z ad t.heap by rw [ht]; exact hW)⟩, hS.F ht⟩) hS.2.2 dX5_plain_6

set_option maxHeartbeats 4000000 in
set_option maxRecDepth 100000 in
theorem c_X5_checked (l : Launch) (D : va_G) (Z : Nat → Nat) (N0 : Nat) (g : T3) (ad : T2) (b : Nat) (hb1 : b ≤ 1) : Met l yX5_checked wsX5_checked ({ frames := 0, cells := 0, slots := 0, locals := 60 } : Room) (PC D Z N0 g ad [.ref (ad 20 0), .int (nI (b))]) (QI D Z N0 ad (fun (r : Int32) (g1 : T3) => Fr g g1 ∧ (r = nI (1 - b) ∧ g1 = up g 20 0 20 (1 - b)))) 0 0 (AA N0) := by
  refine Met.ofW (cc := cX5_checked) (maxL := 2) (ret := (some .int)) (by decide) rfl ?_
  intro pP eP sP mP args below meth cP s₁ B hmlP hvP
  obtain ⟨rfl, hW, hC⟩ := hvP
  have hx := B.exec
  have hb := B.bytes
  have hr := B.returns
  have hts := atoms_spec (ws := wsX5_checked) B.pre
  have hown : sP.vm.findClass RX5 = some mP.cls := findClass_of_methodNamed B.named
  have hlocks := B.notSynchronized
  have i_X5 : ∀ w ∈ wsX50, w ∈ wsX5_checked := (fun _ h => List.mem_cons_of_mem _ (List.mem_append_right _ h))
  have k_72 : Cond.fieldLink RX5 72 "StartChainModel" "thrown" "I" ∈ wsX5_checked := by decide +kernel
  have M : Mx pP mP cP cX5_checked 2 sP ([.ref (ad 20 0), .int (nI (b))] : List Value).toArray wsX5_checked RX5 D Z N0 := ⟨⟨hx, hb, hmlP, hown, hts⟩, hC⟩
  have hf : Fr g g := Fr.rf g
  have hS : va_S (AA N0) sP.heap sP.heap [] := va_S.rf
  have hl := lv_entry ([.ref (ad 20 0), .int (nI (b))]) (n := 2) (Nat.le_of_ble_eq_true rfl)
  rw [lg_entry_eq]
  generalize (lg_sl ([.ref (ad 20 0), .int (nI (b))]) ++ List.replicate (2 - (lg_sl ([.ref (ad 20 0), .int (nI (b))])).length) Slot.unset).toArray = ls at hl ⊢
  have hl : lv_has ls 2 [(0, .ref (ad 20 0)), (1, .int (nI (b)))] := hl
  refine lv_aload_n hx hb dX5_checked_0 rfl (lv_at hl 0 rfl) ?_
  refine lv_iload_n hx hb dX5_checked_1 rfl (lv_at hl 1 rfl) ?_
  refine n_if_eq (tgt := 9) hx hb (Nat.lt_of_le_of_lt hb1 (by decide)) dX5_checked_2 (by decide) (fun c1_z => ?_) (fun c1_z => ?_)
  · refine lv_iconst (v := nI 1) hx hb dX5_checked_9 (by decide) ?_
    refine r_put M hW hS 20 0 (lvM _) rfl rfl i_X5 tyX5 tyX5_ok nmX5 20 (by decide) k_72 (fun _ h9 => h9) rfl (ty := .int) (by decide +kernel) rfl rfl (Nat.le_of_ble_eq_true rfl) rfl rfl (Or.inr (show 1 ≤ 3 by decide)) dX5_checked_10 (fun H locs hW hS => ?_)
    obtain ⟨g2_z, eg2_z⟩ : ∃ z, z = up g 20 0 20 1 := ⟨_, rfl⟩
    rw [← eg2_z] at hW
    have hf : Fr g g2_z := by rw [eg2_z]; exact hf.up rfl
    refine lv_aload_n hx hb dX5_checked_13 rfl (lv_at hl 0 rfl) ?_
    have b3_z : g2_z 20 0 20 ≤ 3 := hW.2.2.1.le 20 0 20 2 rfl
    refine r_get M hW 20 0 (lvM _) (v := .int (nI (g2_z 20 0 20))) rfl rfl i_X5 20 (by decide) k_72 (fun _ h9 => h9) rfl dX5_checked_14 ?_
    have q4_z : g2_z 20 0 20 = 1 := by rw [eg2_z]; first | rfl | simp [up_at]
    refine W.eq (g2 := F0 mP 17 ls (.int (nI (1)) :: [])) (congrArg (fun z => F0 mP 17 ls (.int (nI z) :: [])) q4_z) ?_
    -- path 1
    exact W.iret (v := nI (1)) hx hb hr (fun t ht hW9 => ⟨⟨nI (1), g2_z, rfl, ⟨hf, (by obtain rfl : b = 0 := (by omega); exact ⟨rfl, eg2_z⟩)⟩, (show Wd D Z N0 g2_z ad t.heap by rw [ht]; exact hW)⟩, hS.F ht⟩) hS.2.2 dX5_checked_17
  · refine lv_iconst (v := nI 0) hx hb dX5_checked_5 (by decide) ?_
    refine lv_goto (tgt := 10) hx hb dX5_checked_6 (by decide) ?_
    refine r_put M hW hS 20 0 (lvM _) rfl rfl i_X5 tyX5 tyX5_ok nmX5 20 (by decide) k_72 (fun _ h9 => h9) rfl (ty := .int) (by decide +kernel) rfl rfl (Nat.le_of_ble_eq_true rfl) rfl rfl (Or.inr (show 0 ≤ 3 by decide)) dX5_checked_10 (fun H locs hW hS => ?_)
    obtain ⟨g5_z, eg5_z⟩ : ∃ z, z = up g 20 0 20 0 := ⟨_, rfl⟩
    rw [← eg5_z] at hW
    have hf : Fr g g5_z := by rw [eg5_z]; exact hf.up rfl
    refine lv_aload_n hx hb dX5_checked_13 rfl (lv_at hl 0 rfl) ?_
    have b6_z : g5_z 20 0 20 ≤ 3 := hW.2.2.1.le 20 0 20 2 rfl
    refine r_get M hW 20 0 (lvM _) (v := .int (nI (g5_z 20 0 20))) rfl rfl i_X5 20 (by decide) k_72 (fun _ h9 => h9) rfl dX5_checked_14 ?_
    have q7_z : g5_z 20 0 20 = 0 := by rw [eg5_z]; first | rfl | simp [up_at]
    refine W.eq (g2 := F0 mP 17 ls (.int (nI (0)) :: [])) (congrArg (fun z => F0 mP 17 ls (.int (nI z) :: [])) q7_z) ?_
    -- path 2
    exact W.iret (v := nI (0)) hx hb hr (fun t ht hW9 => ⟨⟨nI (0), g5_z, rfl, ⟨hf, (by obtain rfl : b = 1 := (by omega); exact ⟨rfl, eg5_z⟩)⟩, (show Wd D Z N0 g5_z ad t.heap by rw [ht]; exact hW)⟩, hS.F ht⟩) hS.2.2 dX5_checked_17

set_option maxHeartbeats 4000000 in
set_option maxRecDepth 100000 in
theorem c_X5_isStage (l : Launch) (D : va_G) (Z : Nat → Nat) (N0 : Nat) (g : T3) (ad : T2) (x : Int32) : Met l yX5_isStage wsX5_isStage ({ frames := 1, cells := 0, slots := 0, locals := 100 } : Room) (PC D Z N0 g ad [.ref (ad 20 0), .int (x)]) (QI D Z N0 ad (fun (r : Int32) (g1 : T3) => Fr g g1 ∧ (bP r (Ix (g 20 0 21) x) ∧ g = g1))) 0 0 (AA N0) := by
  refine Met.ofW (cc := cX5_isStage) (maxL := 2) (ret := (some .boolean)) (by decide) rfl ?_
  intro pP eP sP mP args below meth cP s₁ B hmlP hvP
  obtain ⟨rfl, hW, hC⟩ := hvP
  have hx := B.exec
  have hb := B.bytes
  have hr := B.returns
  have hts := atoms_spec (ws := wsX5_isStage) B.pre
  have hown : sP.vm.findClass RX5 = some mP.cls := findClass_of_methodNamed B.named
  have hlocks := B.notSynchronized
  have i_X5 : ∀ w ∈ wsX50, w ∈ wsX5_isStage := (fun _ h => List.mem_cons_of_mem _ (List.mem_append_right _ h))
  have k_76 : Cond.fieldLink RX5 76 "StartChainModel" "stages" "I" ∈ wsX5_isStage := by decide +kernel
  have M : Mx pP mP cP cX5_isStage 2 sP ([.ref (ad 20 0), .int (x)] : List Value).toArray wsX5_isStage RX5 D Z N0 := ⟨⟨hx, hb, hmlP, hown, hts⟩, hC⟩
  have hf : Fr g g := Fr.rf g
  have hS : va_S (AA N0) sP.heap sP.heap [] := va_S.rf
  have hl := lv_entry ([.ref (ad 20 0), .int (x)]) (n := 2) (Nat.le_of_ble_eq_true rfl)
  rw [lg_entry_eq]
  generalize (lg_sl ([.ref (ad 20 0), .int (x)]) ++ List.replicate (2 - (lg_sl ([.ref (ad 20 0), .int (x)])).length) Slot.unset).toArray = ls at hl ⊢
  have hl : lv_has ls 2 [(0, .ref (ad 20 0)), (1, .int (x))] := hl
  refine lv_iload_n hx hb dX5_isStage_0 rfl (lv_at hl 1 rfl) ?_
  refine lv_iconst (v := nI 0) hx hb dX5_isStage_1 (by decide) ?_
  refine lv_aload_n hx hb dX5_isStage_2 rfl (lv_at hl 0 rfl) ?_
  have b1_z : g 20 0 21 ≤ 6 := hW.2.2.1.le 20 0 21 5 rfl
  refine r_get M hW 20 0 (lvM _) (v := .int (nI (g 20 0 21))) rfl rfl i_X5 21 (by decide) k_76 (fun _ h9 => h9) rfl dX5_isStage_3 ?_
  refine lv_iconst (v := nI 1) hx hb dX5_isStage_6 (by decide) ?_
  refine lv_isub hx hb dX5_isStage_7 ?_
  refine k_ci (k_rS (As := [.int (x), .int (nI (0)), .int (nI (g 20 0 21) - nI (1))]) (rest := []) M hW hS (c_X5_in l D Z N0 g ad (x) (nI (0)) (nI (g 20 0 21) - nI (1))) (va_cwS 3 hts gX5_isStage_X5_in rfl rfl rfl (by decide +kernel) ⟨Nat.le_of_ble_eq_true rfl, Nat.le_of_ble_eq_true rfl⟩) rfl hl.1 rfl (Nat.le_of_ble_eq_true rfl) dX5_isStage_8 ⟨Nat.le_of_ble_eq_true rfl, Nat.le_of_ble_eq_true rfl⟩) hS (fun r3_z g2_z H locs hp hW hS => ?_)
  obtain ⟨hf1, hp⟩ := hp
  have hf : Fr g g2_z := hf.trans hf1
  obtain ⟨hp, hg⟩ := hp
  subst hg
  rcases hp with ⟨rfl, c4_z⟩ | ⟨rfl, c4_z⟩
  · -- path 1
    exact W.zret (v := nI (1)) (ty := .boolean) hx hb hr (nar_b (show 1 ≤ 1 by decide)) (fun t ht hW9 => ⟨⟨nI (1), g, rfl, ⟨hf, ⟨Or.inl ⟨rfl, (ix_iff (Nat.lt_of_le_of_lt (hW.2.2.1.le 20 0 21 5 rfl) (by decide))).mp c4_z⟩, rfl⟩⟩, (show Wd D Z N0 g ad t.heap by rw [ht]; exact hW)⟩, hS.F ht⟩) hS.2.2 dX5_isStage_11
  · -- path 2
    exact W.zret (v := nI (0)) (ty := .boolean) hx hb hr (nar_b (show 0 ≤ 1 by decide)) (fun t ht hW9 => ⟨⟨nI (0), g, rfl, ⟨hf, ⟨Or.inr ⟨rfl, fun h => c4_z ((ix_iff (Nat.lt_of_le_of_lt (hW.2.2.1.le 20 0 21 5 rfl) (by decide))).mpr h)⟩, rfl⟩⟩, (show Wd D Z N0 g ad t.heap by rw [ht]; exact hW)⟩, hS.F ht⟩) hS.2.2 dX5_isStage_11

set_option maxHeartbeats 4000000 in
set_option maxRecDepth 100000 in
theorem c_X5_isSecret (l : Launch) (D : va_G) (Z : Nat → Nat) (N0 : Nat) (g : T3) (ad : T2) (x : Int32) : Met l yX5_isSecret wsX5_isSecret ({ frames := 1, cells := 0, slots := 0, locals := 100 } : Room) (PC D Z N0 g ad [.ref (ad 20 0), .int (x)]) (QI D Z N0 ad (fun (r : Int32) (g1 : T3) => Fr g g1 ∧ (bP r (Ix (g 20 0 22) x) ∧ g = g1))) 0 0 (AA N0) := by
  refine Met.ofW (cc := cX5_isSecret) (maxL := 2) (ret := (some .boolean)) (by decide) rfl ?_
  intro pP eP sP mP args below meth cP s₁ B hmlP hvP
  obtain ⟨rfl, hW, hC⟩ := hvP
  have hx := B.exec
  have hb := B.bytes
  have hr := B.returns
  have hts := atoms_spec (ws := wsX5_isSecret) B.pre
  have hown : sP.vm.findClass RX5 = some mP.cls := findClass_of_methodNamed B.named
  have hlocks := B.notSynchronized
  have i_X5 : ∀ w ∈ wsX50, w ∈ wsX5_isSecret := (fun _ h => List.mem_cons_of_mem _ (List.mem_append_right _ h))
  have k_79 : Cond.fieldLink RX5 79 "StartChainModel" "secrets" "I" ∈ wsX5_isSecret := by decide +kernel
  have M : Mx pP mP cP cX5_isSecret 2 sP ([.ref (ad 20 0), .int (x)] : List Value).toArray wsX5_isSecret RX5 D Z N0 := ⟨⟨hx, hb, hmlP, hown, hts⟩, hC⟩
  have hf : Fr g g := Fr.rf g
  have hS : va_S (AA N0) sP.heap sP.heap [] := va_S.rf
  have hl := lv_entry ([.ref (ad 20 0), .int (x)]) (n := 2) (Nat.le_of_ble_eq_true rfl)
  rw [lg_entry_eq]
  generalize (lg_sl ([.ref (ad 20 0), .int (x)]) ++ List.replicate (2 - (lg_sl ([.ref (ad 20 0), .int (x)])).length) Slot.unset).toArray = ls at hl ⊢
  have hl : lv_has ls 2 [(0, .ref (ad 20 0)), (1, .int (x))] := hl
  refine lv_iload_n hx hb dX5_isSecret_0 rfl (lv_at hl 1 rfl) ?_
  refine lv_iconst (v := nI 0) hx hb dX5_isSecret_1 (by decide) ?_
  refine lv_aload_n hx hb dX5_isSecret_2 rfl (lv_at hl 0 rfl) ?_
  have b1_z : g 20 0 22 ≤ 8 := hW.2.2.1.le 20 0 22 7 rfl
  refine r_get M hW 20 0 (lvM _) (v := .int (nI (g 20 0 22))) rfl rfl i_X5 22 (by decide) k_79 (fun _ h9 => h9) rfl dX5_isSecret_3 ?_
  refine lv_iconst (v := nI 1) hx hb dX5_isSecret_6 (by decide) ?_
  refine lv_isub hx hb dX5_isSecret_7 ?_
  refine k_ci (k_rS (As := [.int (x), .int (nI (0)), .int (nI (g 20 0 22) - nI (1))]) (rest := []) M hW hS (c_X5_in l D Z N0 g ad (x) (nI (0)) (nI (g 20 0 22) - nI (1))) (va_cwS 3 hts gX5_isSecret_X5_in rfl rfl rfl (by decide +kernel) ⟨Nat.le_of_ble_eq_true rfl, Nat.le_of_ble_eq_true rfl⟩) rfl hl.1 rfl (Nat.le_of_ble_eq_true rfl) dX5_isSecret_8 ⟨Nat.le_of_ble_eq_true rfl, Nat.le_of_ble_eq_true rfl⟩) hS (fun r3_z g2_z H locs hp hW hS => ?_)
  obtain ⟨hf1, hp⟩ := hp
  have hf : Fr g g2_z := hf.trans hf1
  obtain ⟨hp, hg⟩ := hp
  subst hg
  rcases hp with ⟨rfl, c4_z⟩ | ⟨rfl, c4_z⟩
  · -- path 1
    exact W.zret (v := nI (1)) (ty := .boolean) hx hb hr (nar_b (show 1 ≤ 1 by decide)) (fun t ht hW9 => ⟨⟨nI (1), g, rfl, ⟨hf, ⟨Or.inl ⟨rfl, (ix_iff (Nat.lt_of_le_of_lt (hW.2.2.1.le 20 0 22 7 rfl) (by decide))).mp c4_z⟩, rfl⟩⟩, (show Wd D Z N0 g ad t.heap by rw [ht]; exact hW)⟩, hS.F ht⟩) hS.2.2 dX5_isSecret_11
  · -- path 2
    exact W.zret (v := nI (0)) (ty := .boolean) hx hb hr (nar_b (show 0 ≤ 1 by decide)) (fun t ht hW9 => ⟨⟨nI (0), g, rfl, ⟨hf, ⟨Or.inr ⟨rfl, fun h => c4_z ((ix_iff (Nat.lt_of_le_of_lt (hW.2.2.1.le 20 0 22 7 rfl) (by decide))).mpr h)⟩, rfl⟩⟩, (show Wd D Z N0 g ad t.heap by rw [ht]; exact hW)⟩, hS.F ht⟩) hS.2.2 dX5_isSecret_11

set_option maxHeartbeats 4000000 in
set_option maxRecDepth 100000 in
theorem c_X5_at (l : Launch) (D : va_G) (Z : Nat → Nat) (N0 : Nat) (g : T3) (ad : T2) (i s : Nat) : Met l yX5_at wsX5_at ({ frames := 0, cells := 0, slots := 0, locals := 60 } : Room) (PC D Z N0 g ad [.int (nI (i)), .int (nI (s))]) (QI D Z N0 ad (fun (r : Int32) (g1 : T3) => Fr g g1 ∧ (r = nI (2 * i + s) ∧ g = g1))) 0 0 (AA N0) := by
  refine Met.ofW (cc := cX5_at) (maxL := 2) (ret := (some .int)) (by decide) rfl ?_
  intro pP eP sP mP args below meth cP s₁ B hmlP hvP
  obtain ⟨rfl, hW, hC⟩ := hvP
  have hx := B.exec
  have hb := B.bytes
  have hr := B.returns
  have hts := atoms_spec (ws := wsX5_at) B.pre
  have hown : sP.vm.findClass RX5 = some mP.cls := findClass_of_methodNamed B.named
  have hlocks := B.notSynchronized
  have M : Mx pP mP cP cX5_at 2 sP ([.int (nI (i)), .int (nI (s))] : List Value).toArray wsX5_at RX5 D Z N0 := ⟨⟨hx, hb, hmlP, hown, hts⟩, hC⟩
  have hf : Fr g g := Fr.rf g
  have hS : va_S (AA N0) sP.heap sP.heap [] := va_S.rf
  have hl := lv_entry ([.int (nI (i)), .int (nI (s))]) (n := 2) (Nat.le_of_ble_eq_true rfl)
  rw [lg_entry_eq]
  generalize (lg_sl ([.int (nI (i)), .int (nI (s))]) ++ List.replicate (2 - (lg_sl ([.int (nI (i)), .int (nI (s))])).length) Slot.unset).toArray = ls at hl ⊢
  have hl : lv_has ls 2 [(0, .int (nI (i))), (1, .int (nI (s)))] := hl
  refine lv_iconst (v := nI 2) hx hb dX5_at_0 (by decide) ?_
  refine lv_iload_n hx hb dX5_at_1 rfl (lv_at hl 0 rfl) ?_
  refine n_imul hx hb dX5_at_2 ?_
  refine lv_iload_n hx hb dX5_at_3 rfl (lv_at hl 1 rfl) ?_
  refine n_iadd hx hb dX5_at_4 ?_
  -- path 1
  exact W.iret (v := nI (2 * i + s)) hx hb hr (fun t ht hW9 => ⟨⟨nI (2 * i + s), g, rfl, ⟨hf, ⟨rfl, rfl⟩⟩, (show Wd D Z N0 g ad t.heap by rw [ht]; exact hW)⟩, hS.F ht⟩) hS.2.2 dX5_at_5

set_option maxHeartbeats 4000000 in
set_option maxRecDepth 100000 in
theorem c_X5_setTrusted (l : Launch) (D : va_G) (Z : Nat → Nat) (N0 : Nat) (g : T3) (ad : T2) (x : Int32) (b : Nat) (hb1 : b ≤ 1) : Met l yX5_setTrusted wsX5_setTrusted ({ frames := 2, cells := 0, slots := 0, locals := 140 } : Room) (PC D Z N0 g ad [.ref (ad 20 0), .int (x), .int (nI (b))]) (QI D Z N0 ad (fun (r : Int32) (g1 : T3) => Fr g g1 ∧ ((¬ Bt 9 x ∧ r = nI 0 ∧ g1 = up g 20 0 20 1) ∨ (∃ j, 1 ≤ j ∧ j ≤ 9 ∧ x = nI j ∧ r = nI (g 21 0 j) ∧ g1 = up (up g 20 0 20 0) 21 0 j b)))) 0 0 (AA N0) := by
  refine Met.ofW (cc := cX5_setTrusted) (maxL := 4) (ret := (some .boolean)) (by decide) rfl ?_
  intro pP eP sP mP args below meth cP s₁ B hmlP hvP
  obtain ⟨rfl, hW, hC⟩ := hvP
  have hx := B.exec
  have hb := B.bytes
  have hr := B.returns
  have hts := atoms_spec (ws := wsX5_setTrusted) B.pre
  have hown : sP.vm.findClass RX5 = some mP.cls := findClass_of_methodNamed B.named
  have hlocks := B.notSynchronized
  have i_X5 : ∀ w ∈ wsX50, w ∈ wsX5_setTrusted := (fun _ h => List.mem_cons_of_mem _ (List.mem_append_left _ (List.mem_append_right _ h)))
  have k_7 : Cond.fieldLink RX5 7 "StartChainModel" "areTrusted" "[Z" ∈ wsX5_setTrusted := by decide +kernel
  have M : Mx pP mP cP cX5_setTrusted 4 sP ([.ref (ad 20 0), .int (x), .int (nI (b))] : List Value).toArray wsX5_setTrusted RX5 D Z N0 := ⟨⟨hx, hb, hmlP, hown, hts⟩, hC⟩
  have hf : Fr g g := Fr.rf g
  have hS : va_S (AA N0) sP.heap sP.heap [] := va_S.rf
  have hl := lv_entry ([.ref (ad 20 0), .int (x), .int (nI (b))]) (n := 4) (Nat.le_of_ble_eq_true rfl)
  rw [lg_entry_eq]
  generalize (lg_sl ([.ref (ad 20 0), .int (x), .int (nI (b))]) ++ List.replicate (4 - (lg_sl ([.ref (ad 20 0), .int (x), .int (nI (b))])).length) Slot.unset).toArray = ls at hl ⊢
  have hl : lv_has ls 4 [(0, .ref (ad 20 0)), (1, .int (x)), (2, .int (nI (b)))] := hl
  refine lv_aload_n hx hb dX5_setTrusted_0 rfl (lv_at hl 0 rfl) ?_
  refine lv_iload_n hx hb dX5_setTrusted_1 rfl (lv_at hl 1 rfl) ?_
  refine lv_iconst (v := nI 1) hx hb dX5_setTrusted_2 (by decide) ?_
  refine lv_bipush (v := nI 9) hx hb dX5_setTrusted_3 (by decide) ?_
  refine k_ci (k_rS (As := [.int (x), .int (nI (1)), .int (nI (9))]) (rest := [.ref (ad 20 0)]) M hW hS (c_X5_in l D Z N0 g ad (x) (nI (1)) (nI (9))) (va_cwS 3 hts gX5_setTrusted_X5_in rfl rfl rfl (by decide +kernel) ⟨Nat.le_of_ble_eq_true rfl, Nat.le_of_ble_eq_true rfl⟩) rfl hl.1 rfl (Nat.le_of_ble_eq_true rfl) dX5_setTrusted_5 ⟨Nat.le_of_ble_eq_true rfl, Nat.le_of_ble_eq_true rfl⟩) hS (fun r2_z g1_z H locs hp hW hS => ?_)
  obtain ⟨hf1, hp⟩ := hp
  have hf : Fr g g1_z := hf.trans hf1
  obtain ⟨hp, hg⟩ := hp
  subst hg
  rcases hp with ⟨rfl, c3_z⟩ | ⟨rfl, c3_z⟩
  · obtain ⟨j, hj1, hj, rfl⟩ := (bt_iff (n := 9) (by decide)).mp c3_z
    refine k_ci (k_rV (As := [.int (nI (1))]) (rest := []) M hW hS (c_X5_checked l D Z N0 g ad 1 (show 1 ≤ 1 by decide)) (cwV 1 hts gX5_setTrusted_X5_checked rfl rfl rfl (by decide +kernel) ⟨Nat.le_of_ble_eq_true rfl, Nat.le_of_ble_eq_true rfl⟩) (r_recv M.2 hW 20 0 (lvM _) rfl rfl) rfl hl.1 rfl (Nat.le_of_ble_eq_true rfl) dX5_setTrusted_8 ⟨Nat.le_of_ble_eq_true rfl, Nat.le_of_ble_eq_true rfl⟩) hS (fun r5_z g4_z H locs hp hW hS => ?_)
    obtain ⟨hf1, hp⟩ := hp
    have hf : Fr g g4_z := hf.trans hf1
    obtain ⟨hr9, eg4_z⟩ := hp
    have hr9 : r5_z = nI 0 := hr9
    subst hr9
    have eg4_z : g4_z = up g 20 0 20 0 := eg4_z
    refine n_if_le (tgt := 16) hx hb (by decide) dX5_setTrusted_11 (by decide) (fun _ => ?_) (fun h9 => absurd h9 (by decide))
    refine lv_aload_n hx hb dX5_setTrusted_16 rfl (lv_at hl 0 rfl) ?_
    refine r_get M hW 20 0 (lvM _) (v := .ref (ad 21 0)) rfl rfl i_X5 0 (by decide) k_7 (fun _ h9 => h9) rfl dX5_setTrusted_17 ?_
    refine lv_iload_n hx hb dX5_setTrusted_20 rfl (lv_at hl 1 rfl) ?_
    refine r_zald M hW 21 0 ⟨rfl, by decide, by decide⟩ (n := 10) rfl (Nat.lt_of_le_of_lt hj (by decide)) (by decide) dX5_setTrusted_21 ?_
    have b7_z : g4_z 21 0 j ≤ 1 := hW.2.2.1.le 21 0 j 0 rfl
    refine lv_istore_n (lv' := [(3, .int (nI (g4_z 21 0 j))), (0, .ref (ad 20 0)), (1, .int (nI (j))), (2, .int (nI (b)))]) hx hb dX5_setTrusted_22 rfl hl (by decide) rfl (fun ls hl => ?_)
    refine lv_aload_n hx hb dX5_setTrusted_23 rfl (lv_at hl 1 rfl) ?_
    refine r_get M hW 20 0 (lvM _) (v := .ref (ad 21 0)) rfl rfl i_X5 0 (by decide) k_7 (fun _ h9 => h9) rfl dX5_setTrusted_24 ?_
    refine lv_iload_n hx hb dX5_setTrusted_27 rfl (lv_at hl 2 rfl) ?_
    refine lv_iload_n hx hb dX5_setTrusted_28 rfl (lv_at hl 3 rfl) ?_
    refine r_zst M hW hS 21 0 ⟨rfl, by decide, by decide⟩ (n := 10) (fun _ => rfl) (Nat.lt_of_le_of_lt hj (by decide)) (by decide) rfl hb1 (Or.inr hb1) dX5_setTrusted_29 (fun H locs hW hS => ?_)
    obtain ⟨g8_z, eg8_z⟩ : ∃ z, z = up g4_z 21 0 j b := ⟨_, rfl⟩
    rw [← eg8_z] at hW
    have hf : Fr g g8_z := by rw [eg8_z]; exact hf.up rfl
    refine lv_iload_n hx hb dX5_setTrusted_30 rfl (lv_at hl 0 rfl) ?_
    -- path 1
    exact W.zret (v := nI (g4_z 21 0 j)) (ty := .boolean) hx hb hr (nar_b b7_z) (fun t ht hW9 => ⟨⟨nI (g4_z 21 0 j), g8_z, rfl, ⟨hf, (by subst eg8_z eg4_z; exact Or.inr ⟨j, hj1, hj, rfl, rfl, rfl⟩)⟩, (show Wd D Z N0 g8_z ad t.heap by rw [ht]; exact hW)⟩, hS.F ht⟩) hS.2.2 dX5_setTrusted_31
  · refine k_ci (k_rV (As := [.int (nI (0))]) (rest := []) M hW hS (c_X5_checked l D Z N0 g ad 0 (show 0 ≤ 1 by decide)) (cwV 1 hts gX5_setTrusted_X5_checked rfl rfl rfl (by decide +kernel) ⟨Nat.le_of_ble_eq_true rfl, Nat.le_of_ble_eq_true rfl⟩) (r_recv M.2 hW 20 0 (lvM _) rfl rfl) rfl hl.1 rfl (Nat.le_of_ble_eq_true rfl) dX5_setTrusted_8 ⟨Nat.le_of_ble_eq_true rfl, Nat.le_of_ble_eq_true rfl⟩) hS (fun r10_z g9_z H locs hp hW hS => ?_)
    obtain ⟨hf1, hp⟩ := hp
    have hf : Fr g g9_z := hf.trans hf1
    obtain ⟨hr9, eg9_z⟩ := hp
    have hr9 : r10_z = nI 1 := hr9
    subst hr9
    have eg9_z : g9_z = up g 20 0 20 1 := eg9_z
    refine n_if_le (tgt := 16) hx hb (by decide) dX5_setTrusted_11 (by decide) (fun h9 => absurd h9 (by decide)) (fun _ => ?_)
    refine lv_iconst (v := nI 0) hx hb dX5_setTrusted_14 (by decide) ?_
    -- path 2
    exact W.zret (v := nI (0)) (ty := .boolean) hx hb hr (nar_b (show 0 ≤ 1 by decide)) (fun t ht hW9 => ⟨⟨nI (0), g9_z, rfl, ⟨hf, (by subst eg9_z; exact Or.inl ⟨fun h => c3_z ((bt_iff (n := 9) (by decide)).mpr h), rfl, rfl⟩)⟩, (show Wd D Z N0 g9_z ad t.heap by rw [ht]; exact hW)⟩, hS.F ht⟩) hS.2.2 dX5_setTrusted_15

set_option maxHeartbeats 4000000 in
set_option maxRecDepth 100000 in
theorem c_X5_addStage (l : Launch) (D : va_G) (Z : Nat → Nat) (N0 : Nat) (g : T3) (ad : T2) (x : Int32) : Met l yX5_addStage wsX5_addStage ({ frames := 2, cells := 0, slots := 0, locals := 140 } : Room) (PC D Z N0 g ad [.ref (ad 20 0), .int (x)]) (QI D Z N0 ad (fun (r : Int32) (g1 : T3) => Fr g g1 ∧ ((¬ Ix 3 x ∧ r = nI 0 ∧ g1 = up g 20 0 20 1) ∨ (Ix 3 x ∧ (g 20 0 21 = 6 ∨ ¬ g 20 0 19 = 111) ∧ r = nI 0 ∧ g1 = up g 20 0 20 2) ∨ (∃ i, i < 3 ∧ x = nI i ∧ ¬ g 20 0 21 = 6 ∧ g 20 0 19 = 111 ∧ r = nI (g 20 0 21) ∧ g1 = up (up (up g 20 0 20 0) 24 0 (g 20 0 21) i) 20 0 21 (g 20 0 21 + 1))))) 0 0 (AA N0) := by
  refine Met.ofW (cc := cX5_addStage) (maxL := 2) (ret := (some .int)) (by decide) rfl ?_
  intro pP eP sP mP args below meth cP s₁ B hmlP hvP
  obtain ⟨rfl, hW, hC⟩ := hvP
  have hx := B.exec
  have hb := B.bytes
  have hr := B.returns
  have hts := atoms_spec (ws := wsX5_addStage) B.pre
  have hown : sP.vm.findClass RX5 = some mP.cls := findClass_of_methodNamed B.named
  have hlocks := B.notSynchronized
  have i_X5 : ∀ w ∈ wsX50, w ∈ wsX5_addStage := (fun _ h => List.mem_cons_of_mem _ (List.mem_append_left _ (List.mem_append_right _ h)))
  have k_76 : Cond.fieldLink RX5 76 "StartChainModel" "stages" "I" ∈ wsX5_addStage := by decide +kernel
  have k_72 : Cond.fieldLink RX5 72 "StartChainModel" "thrown" "I" ∈ wsX5_addStage := by decide +kernel
  have k_68 : Cond.fieldLink RX5 68 "StartChainModel" "state" "C" ∈ wsX5_addStage := by decide +kernel
  have k_19 : Cond.fieldLink RX5 19 "StartChainModel" "registersOf" "[I" ∈ wsX5_addStage := by decide +kernel
  have M : Mx pP mP cP cX5_addStage 2 sP ([.ref (ad 20 0), .int (x)] : List Value).toArray wsX5_addStage RX5 D Z N0 := ⟨⟨hx, hb, hmlP, hown, hts⟩, hC⟩
  have hf : Fr g g := Fr.rf g
  have hS : va_S (AA N0) sP.heap sP.heap [] := va_S.rf
  have hl := lv_entry ([.ref (ad 20 0), .int (x)]) (n := 2) (Nat.le_of_ble_eq_true rfl)
  rw [lg_entry_eq]
  generalize (lg_sl ([.ref (ad 20 0), .int (x)]) ++ List.replicate (2 - (lg_sl ([.ref (ad 20 0), .int (x)])).length) Slot.unset).toArray = ls at hl ⊢
  have hl : lv_has ls 2 [(0, .ref (ad 20 0)), (1, .int (x))] := hl
  refine lv_aload_n hx hb dX5_addStage_0 rfl (lv_at hl 0 rfl) ?_
  refine lv_iload_n hx hb dX5_addStage_1 rfl (lv_at hl 1 rfl) ?_
  refine k_ci (k_rS (As := [.int (x)]) (rest := [.ref (ad 20 0)]) M hW hS (c_X5_isRegister l D Z N0 g ad (x)) (va_cwS 1 hts gX5_addStage_X5_isRegister rfl rfl rfl (by decide +kernel) ⟨Nat.le_of_ble_eq_true rfl, Nat.le_of_ble_eq_true rfl⟩) rfl hl.1 rfl (Nat.le_of_ble_eq_true rfl) dX5_addStage_2 ⟨Nat.le_of_ble_eq_true rfl, Nat.le_of_ble_eq_true rfl⟩) hS (fun r2_z g1_z H locs hp hW hS => ?_)
  obtain ⟨hf1, hp⟩ := hp
  have hf : Fr g g1_z := hf.trans hf1
  obtain ⟨hp, hg⟩ := hp
  subst hg
  rcases hp with ⟨rfl, c3_z⟩ | ⟨rfl, c3_z⟩
  · obtain ⟨i, hi, rfl⟩ := c3_z
    refine n_if_ne (tgt := 12) hx hb (by decide) dX5_addStage_5 (by decide) (fun _ => ?_) (fun h9 => absurd h9 (by decide))
    refine lv_aload_n hx hb dX5_addStage_12 rfl (lv_at hl 0 rfl) ?_
    have b5_z : g 20 0 21 ≤ 6 := hW.2.2.1.le 20 0 21 5 rfl
    refine r_get M hW 20 0 (lvM _) (v := .int (nI (g 20 0 21))) rfl rfl i_X5 21 (by decide) k_76 (fun _ h9 => h9) rfl dX5_addStage_13 ?_
    refine lv_bipush (v := nI 6) hx hb dX5_addStage_16 (by decide) ?_
    refine n_icmp_eq (tgt := 30) hx hb (Nat.lt_of_le_of_lt b5_z (by decide)) (by decide) dX5_addStage_18 (by decide) (fun c6_z => ?_) (fun c6_z => ?_)
    · refine lv_iconst (v := nI 2) hx hb dX5_addStage_30 (by decide) ?_
      refine lv_goto (tgt := 35) hx hb dX5_addStage_31 (by decide) ?_
      refine r_put M hW hS 20 0 (lvM _) rfl rfl i_X5 tyX5 tyX5_ok nmX5 20 (by decide) k_72 (fun _ h9 => h9) rfl (ty := .int) (by decide +kernel) rfl rfl (Nat.le_of_ble_eq_true rfl) rfl rfl (Or.inr (show 2 ≤ 3 by decide)) dX5_addStage_35 (fun H locs hW hS => ?_)
      obtain ⟨g7_z, eg7_z⟩ : ∃ z, z = up g 20 0 20 2 := ⟨_, rfl⟩
      rw [← eg7_z] at hW
      have hf : Fr g g7_z := by rw [eg7_z]; exact hf.up rfl
      refine lv_aload_n hx hb dX5_addStage_38 rfl (lv_at hl 0 rfl) ?_
      have b8_z : g7_z 20 0 20 ≤ 3 := hW.2.2.1.le 20 0 20 2 rfl
      refine r_get M hW 20 0 (lvM _) (v := .int (nI (g7_z 20 0 20))) rfl rfl i_X5 20 (by decide) k_72 (fun _ h9 => h9) rfl dX5_addStage_39 ?_
      have q9_z : g7_z 20 0 20 = 2 := by rw [eg7_z]; first | rfl | simp [up_at]
      refine W.eq (g2 := F0 mP 42 ls (.int (nI (2)) :: [])) (congrArg (fun z => F0 mP 42 ls (.int (nI z) :: [])) q9_z) ?_
      refine n_if_le (tgt := 47) hx hb (by decide) dX5_addStage_42 (by decide) (fun h9 => absurd h9 (by decide)) (fun _ => ?_)
      refine lv_iconst (v := nI 0) hx hb dX5_addStage_45 (by decide) ?_
      -- path 1
      exact W.iret (v := nI (0)) hx hb hr (fun t ht hW9 => ⟨⟨nI (0), g7_z, rfl, ⟨hf, (by subst eg7_z; exact Or.inr (Or.inl ⟨⟨i, hi, rfl⟩, Or.inl c6_z, rfl, rfl⟩))⟩, (show Wd D Z N0 g7_z ad t.heap by rw [ht]; exact hW)⟩, hS.F ht⟩) hS.2.2 dX5_addStage_46
    · refine lv_aload_n hx hb dX5_addStage_21 rfl (lv_at hl 0 rfl) ?_
      have b11_z : g 20 0 19 ≤ 127 := hW.2.2.1.le 20 0 19 126 rfl
      refine r_get M hW 20 0 (lvM _) (v := .int (nI (g 20 0 19))) rfl rfl i_X5 19 (by decide) k_68 (fun _ h9 => h9) rfl dX5_addStage_22 ?_
      refine lv_bipush (v := nI 111) hx hb dX5_addStage_25 (by decide) ?_
      refine n_icmp_eq (tgt := 34) hx hb (Nat.lt_of_le_of_lt b11_z (by decide)) (by decide) dX5_addStage_27 (by decide) (fun c12_z => ?_) (fun c12_z => ?_)
      · refine lv_iconst (v := nI 0) hx hb dX5_addStage_34 (by decide) ?_
        refine r_put M hW hS 20 0 (lvM _) rfl rfl i_X5 tyX5 tyX5_ok nmX5 20 (by decide) k_72 (fun _ h9 => h9) rfl (ty := .int) (by decide +kernel) rfl rfl (Nat.le_of_ble_eq_true rfl) rfl rfl (Or.inr (show 0 ≤ 3 by decide)) dX5_addStage_35 (fun H locs hW hS => ?_)
        obtain ⟨g13_z, eg13_z⟩ : ∃ z, z = up g 20 0 20 0 := ⟨_, rfl⟩
        rw [← eg13_z] at hW
        have hf : Fr g g13_z := by rw [eg13_z]; exact hf.up rfl
        refine lv_aload_n hx hb dX5_addStage_38 rfl (lv_at hl 0 rfl) ?_
        have b14_z : g13_z 20 0 20 ≤ 3 := hW.2.2.1.le 20 0 20 2 rfl
        refine r_get M hW 20 0 (lvM _) (v := .int (nI (g13_z 20 0 20))) rfl rfl i_X5 20 (by decide) k_72 (fun _ h9 => h9) rfl dX5_addStage_39 ?_
        have q15_z : g13_z 20 0 20 = 0 := by rw [eg13_z]; first | rfl | simp [up_at]
        refine W.eq (g2 := F0 mP 42 ls (.int (nI (0)) :: [])) (congrArg (fun z => F0 mP 42 ls (.int (nI z) :: [])) q15_z) ?_
        refine n_if_le (tgt := 47) hx hb (by decide) dX5_addStage_42 (by decide) (fun _ => ?_) (fun h9 => absurd h9 (by decide))
        refine lv_aload_n hx hb dX5_addStage_47 rfl (lv_at hl 0 rfl) ?_
        refine r_get M hW 20 0 (lvM _) (v := .ref (ad 24 0)) rfl rfl i_X5 3 (by decide) k_19 (fun _ h9 => h9) rfl dX5_addStage_48 ?_
        refine lv_aload_n hx hb dX5_addStage_51 rfl (lv_at hl 0 rfl) ?_
        have q17_z : g13_z 20 0 21 = g 20 0 21 := by rw [eg13_z]; first | rfl | simp [up_at]
        have b18_z : g13_z 20 0 21 ≤ 6 := hW.2.2.1.le 20 0 21 5 rfl
        refine r_get M hW 20 0 (lvM _) (v := .int (nI (g13_z 20 0 21))) rfl rfl i_X5 21 (by decide) k_76 (fun _ h9 => h9) rfl dX5_addStage_52 ?_
        refine lv_iload_n hx hb dX5_addStage_55 rfl (lv_at hl 1 rfl) ?_
        refine r_ist M hW hS 24 0 ⟨rfl, by decide, by decide⟩ (n := 6) (fun _ => rfl) (by omega) (by decide) rfl (Or.inr (Nat.le_of_lt_succ hi)) dX5_addStage_56 (fun H locs hW hS => ?_)
        obtain ⟨g19_z, eg19_z⟩ : ∃ z, z = up g13_z 24 0 (g13_z 20 0 21) i := ⟨_, rfl⟩
        rw [← eg19_z] at hW
        have hf : Fr g g19_z := by rw [eg19_z]; exact hf.up rfl
        refine lv_aload_n hx hb dX5_addStage_57 rfl (lv_at hl 0 rfl) ?_
        refine lv_dup hx hb dX5_addStage_58 rfl ?_
        have q20_z : g19_z 20 0 21 = g 20 0 21 := by rw [eg19_z, eg13_z]; first | rfl | simp [up_at]
        have b21_z : g19_z 20 0 21 ≤ 6 := hW.2.2.1.le 20 0 21 5 rfl
        refine r_get M hW 20 0 (lvM _) (v := .int (nI (g19_z 20 0 21))) rfl rfl i_X5 21 (by decide) k_76 (fun _ h9 => h9) rfl dX5_addStage_59 ?_
        refine lv_iconst (v := nI 1) hx hb dX5_addStage_62 (by decide) ?_
        refine n_iadd hx hb dX5_addStage_63 ?_
        refine r_put M hW hS 20 0 (lvM _) rfl rfl i_X5 tyX5 tyX5_ok nmX5 21 (by decide) k_76 (fun _ h9 => h9) rfl (ty := .int) (by decide +kernel) rfl rfl (Nat.le_of_ble_eq_true rfl) rfl rfl (Or.inr (show g19_z 20 0 21 + 1 ≤ 6 by omega)) dX5_addStage_64 (fun H locs hW hS => ?_)
        obtain ⟨g22_z, eg22_z⟩ : ∃ z, z = up g19_z 20 0 21 (g19_z 20 0 21 + 1) := ⟨_, rfl⟩
        rw [← eg22_z] at hW
        have hf : Fr g g22_z := by rw [eg22_z]; exact hf.up rfl
        refine lv_aload_n hx hb dX5_addStage_67 rfl (lv_at hl 0 rfl) ?_
        have b23_z : g22_z 20 0 21 ≤ 6 := hW.2.2.1.le 20 0 21 5 rfl
        refine r_get M hW 20 0 (lvM _) (v := .int (nI (g22_z 20 0 21))) rfl rfl i_X5 21 (by decide) k_76 (fun _ h9 => h9) rfl dX5_addStage_68 ?_
        have q24_z : g22_z 20 0 21 = g19_z 20 0 21 + 1 := by rw [eg22_z]; first | rfl | simp [up_at]
        refine W.eq (g2 := F0 mP 71 ls (.int (nI (g19_z 20 0 21 + 1)) :: [])) (congrArg (fun z => F0 mP 71 ls (.int (nI z) :: [])) q24_z) ?_
        refine lv_iconst (v := nI 1) hx hb dX5_addStage_71 (by decide) ?_
        refine n_isub hx hb (by omega) dX5_addStage_72 ?_
        -- path 2
        exact W.iret (v := nI ((g19_z 20 0 21 + 1) - 1)) hx hb hr (fun t ht hW9 => ⟨⟨nI ((g19_z 20 0 21 + 1) - 1), g22_z, rfl, ⟨hf, (by subst eg22_z eg19_z eg13_z; exact Or.inr (Or.inr ⟨i, hi, rfl, c6_z, c12_z, rfl, rfl⟩))⟩, (show Wd D Z N0 g22_z ad t.heap by rw [ht]; exact hW)⟩, hS.F ht⟩) hS.2.2 dX5_addStage_73
      · refine lv_iconst (v := nI 2) hx hb dX5_addStage_30 (by decide) ?_
        refine lv_goto (tgt := 35) hx hb dX5_addStage_31 (by decide) ?_
        refine r_put M hW hS 20 0 (lvM _) rfl rfl i_X5 tyX5 tyX5_ok nmX5 20 (by decide) k_72 (fun _ h9 => h9) rfl (ty := .int) (by decide +kernel) rfl rfl (Nat.le_of_ble_eq_true rfl) rfl rfl (Or.inr (show 2 ≤ 3 by decide)) dX5_addStage_35 (fun H locs hW hS => ?_)
        obtain ⟨g25_z, eg25_z⟩ : ∃ z, z = up g 20 0 20 2 := ⟨_, rfl⟩
        rw [← eg25_z] at hW
        have hf : Fr g g25_z := by rw [eg25_z]; exact hf.up rfl
        refine lv_aload_n hx hb dX5_addStage_38 rfl (lv_at hl 0 rfl) ?_
        have b26_z : g25_z 20 0 20 ≤ 3 := hW.2.2.1.le 20 0 20 2 rfl
        refine r_get M hW 20 0 (lvM _) (v := .int (nI (g25_z 20 0 20))) rfl rfl i_X5 20 (by decide) k_72 (fun _ h9 => h9) rfl dX5_addStage_39 ?_
        have q27_z : g25_z 20 0 20 = 2 := by rw [eg25_z]; first | rfl | simp [up_at]
        refine W.eq (g2 := F0 mP 42 ls (.int (nI (2)) :: [])) (congrArg (fun z => F0 mP 42 ls (.int (nI z) :: [])) q27_z) ?_
        refine n_if_le (tgt := 47) hx hb (by decide) dX5_addStage_42 (by decide) (fun h9 => absurd h9 (by decide)) (fun _ => ?_)
        refine lv_iconst (v := nI 0) hx hb dX5_addStage_45 (by decide) ?_
        -- path 3
        exact W.iret (v := nI (0)) hx hb hr (fun t ht hW9 => ⟨⟨nI (0), g25_z, rfl, ⟨hf, (by subst eg25_z; exact Or.inr (Or.inl ⟨⟨i, hi, rfl⟩, Or.inr c12_z, rfl, rfl⟩))⟩, (show Wd D Z N0 g25_z ad t.heap by rw [ht]; exact hW)⟩, hS.F ht⟩) hS.2.2 dX5_addStage_46
  · refine n_if_ne (tgt := 12) hx hb (by decide) dX5_addStage_5 (by decide) (fun h9 => absurd h9 (by decide)) (fun _ => ?_)
    refine lv_iconst (v := nI 1) hx hb dX5_addStage_8 (by decide) ?_
    refine lv_goto (tgt := 35) hx hb dX5_addStage_9 (by decide) ?_
    refine r_put M hW hS 20 0 (lvM _) rfl rfl i_X5 tyX5 tyX5_ok nmX5 20 (by decide) k_72 (fun _ h9 => h9) rfl (ty := .int) (by decide +kernel) rfl rfl (Nat.le_of_ble_eq_true rfl) rfl rfl (Or.inr (show 1 ≤ 3 by decide)) dX5_addStage_35 (fun H locs hW hS => ?_)
    obtain ⟨g30_z, eg30_z⟩ : ∃ z, z = up g 20 0 20 1 := ⟨_, rfl⟩
    rw [← eg30_z] at hW
    have hf : Fr g g30_z := by rw [eg30_z]; exact hf.up rfl
    refine lv_aload_n hx hb dX5_addStage_38 rfl (lv_at hl 0 rfl) ?_
    have b31_z : g30_z 20 0 20 ≤ 3 := hW.2.2.1.le 20 0 20 2 rfl
    refine r_get M hW 20 0 (lvM _) (v := .int (nI (g30_z 20 0 20))) rfl rfl i_X5 20 (by decide) k_72 (fun _ h9 => h9) rfl dX5_addStage_39 ?_
    have q32_z : g30_z 20 0 20 = 1 := by rw [eg30_z]; first | rfl | simp [up_at]
    refine W.eq (g2 := F0 mP 42 ls (.int (nI (1)) :: [])) (congrArg (fun z => F0 mP 42 ls (.int (nI z) :: [])) q32_z) ?_
    refine n_if_le (tgt := 47) hx hb (by decide) dX5_addStage_42 (by decide) (fun h9 => absurd h9 (by decide)) (fun _ => ?_)
    refine lv_iconst (v := nI 0) hx hb dX5_addStage_45 (by decide) ?_
    -- path 4
    exact W.iret (v := nI (0)) hx hb hr (fun t ht hW9 => ⟨⟨nI (0), g30_z, rfl, ⟨hf, (by subst eg30_z; exact Or.inl ⟨c3_z, rfl, rfl⟩)⟩, (show Wd D Z N0 g30_z ad t.heap by rw [ht]; exact hW)⟩, hS.F ht⟩) hS.2.2 dX5_addStage_46

set_option maxHeartbeats 4000000 in
set_option maxRecDepth 100000 in
theorem c_X5_install (l : Launch) (D : va_G) (Z : Nat → Nat) (N0 : Nat) (g : T3) (ad : T2) (x y z t : Int32) : Met l yX5_install wsX5_install ({ frames := 2, cells := 0, slots := 0, locals := 140 } : Room) (PC D Z N0 g ad [.ref (ad 20 0), .int (x), .int (y), .int (z), .int (t)]) (QI D Z N0 ad (fun (r : Int32) (g1 : T3) => Fr g g1 ∧ ((¬ Ix (g 20 0 21) x ∧ r = nI 0 ∧ g1 = up g 20 0 20 1) ∨ (Ix (g 20 0 21) x ∧ (¬ Bt 9 y ∨ ¬ Bt 99 z ∨ ¬ Ix 1000 t) ∧ r = nI 0 ∧ g1 = up g 20 0 20 2) ∨ (∃ i k v q, i < g 20 0 21 ∧ x = nI i ∧ 1 ≤ k ∧ k ≤ 9 ∧ y = nI k ∧ 1 ≤ v ∧ v ≤ 99 ∧ z = nI v ∧ q < 1000 ∧ t = nI q ∧ r = nI (insS g i) ∧ g1 = insG g i k v q (insS g i))))) 0 0 (AA N0) := by
  refine Met.ofW (cc := cX5_install) (maxL := 6) (ret := (some .int)) (by decide) rfl ?_
  intro pP eP sP mP args below meth cP s₁ B hmlP hvP
  obtain ⟨rfl, hW, hC⟩ := hvP
  have hx := B.exec
  have hb := B.bytes
  have hr := B.returns
  have hts := atoms_spec (ws := wsX5_install) B.pre
  have hown : sP.vm.findClass RX5 = some mP.cls := findClass_of_methodNamed B.named
  have hlocks := B.notSynchronized
  have i_X5 : ∀ w ∈ wsX50, w ∈ wsX5_install := (fun _ h => List.mem_cons_of_mem _ (List.mem_append_left _ (List.mem_append_right _ h)))
  have k_72 : Cond.fieldLink RX5 72 "StartChainModel" "thrown" "I" ∈ wsX5_install := by decide +kernel
  have k_29 : Cond.fieldLink RX5 29 "StartChainModel" "keys" "[I" ∈ wsX5_install := by decide +kernel
  have k_23 : Cond.fieldLink RX5 23 "StartChainModel" "actives" "[I" ∈ wsX5_install := by decide +kernel
  have k_32 : Cond.fieldLink RX5 32 "StartChainModel" "versions" "[I" ∈ wsX5_install := by decide +kernel
  have k_35 : Cond.fieldLink RX5 35 "StartChainModel" "measures" "[I" ∈ wsX5_install := by decide +kernel
  have k_13 : Cond.fieldLink RX5 13 "StartChainModel" "areBad" "[Z" ∈ wsX5_install := by decide +kernel
  have M : Mx pP mP cP cX5_install 6 sP ([.ref (ad 20 0), .int (x), .int (y), .int (z), .int (t)] : List Value).toArray wsX5_install RX5 D Z N0 := ⟨⟨hx, hb, hmlP, hown, hts⟩, hC⟩
  have hf : Fr g g := Fr.rf g
  have hS : va_S (AA N0) sP.heap sP.heap [] := va_S.rf
  have hl := lv_entry ([.ref (ad 20 0), .int (x), .int (y), .int (z), .int (t)]) (n := 6) (Nat.le_of_ble_eq_true rfl)
  rw [lg_entry_eq]
  generalize (lg_sl ([.ref (ad 20 0), .int (x), .int (y), .int (z), .int (t)]) ++ List.replicate (6 - (lg_sl ([.ref (ad 20 0), .int (x), .int (y), .int (z), .int (t)])).length) Slot.unset).toArray = ls at hl ⊢
  have hl : lv_has ls 6 [(0, .ref (ad 20 0)), (1, .int (x)), (2, .int (y)), (3, .int (z)), (4, .int (t))] := hl
  have hsz9 := hW.2.2.1.le 20 0 21 5 rfl
  refine lv_aload_n hx hb dX5_install_0 rfl (lv_at hl 0 rfl) ?_
  refine lv_aload_n hx hb dX5_install_1 rfl (lv_at hl 0 rfl) ?_
  refine lv_iload_n hx hb dX5_install_2 rfl (lv_at hl 1 rfl) ?_
  refine k_ci (k_rV (As := [.int (x)]) (rest := [.ref (ad 20 0)]) M hW hS (c_X5_isStage l D Z N0 g ad (x)) (cwV 1 hts gX5_install_X5_isStage rfl rfl rfl (by decide +kernel) ⟨Nat.le_of_ble_eq_true rfl, Nat.le_of_ble_eq_true rfl⟩) (r_recv M.2 hW 20 0 (lvM _) rfl rfl) rfl hl.1 rfl (Nat.le_of_ble_eq_true rfl) dX5_install_3 ⟨Nat.le_of_ble_eq_true rfl, Nat.le_of_ble_eq_true rfl⟩) hS (fun r2_z g1_z H locs hp hW hS => ?_)
  obtain ⟨hf1, hp⟩ := hp
  have hf : Fr g g1_z := hf.trans hf1
  obtain ⟨hp, hg⟩ := hp
  subst hg
  rcases hp with ⟨rfl, c3_z⟩ | ⟨rfl, c3_z⟩
  · obtain ⟨i, hi, rfl⟩ := c3_z
    refine n_if_ne (tgt := 13) hx hb (by decide) dX5_install_6 (by decide) (fun _ => ?_) (fun h9 => absurd h9 (by decide))
    refine lv_iload_n hx hb dX5_install_13 rfl (lv_at hl 2 rfl) ?_
    refine lv_iconst (v := nI 1) hx hb dX5_install_14 (by decide) ?_
    refine lv_bipush (v := nI 9) hx hb dX5_install_15 (by decide) ?_
    refine k_ci (k_rS (As := [.int (y), .int (nI (1)), .int (nI (9))]) (rest := [.ref (ad 20 0)]) M hW hS (c_X5_in l D Z N0 g ad (y) (nI (1)) (nI (9))) (va_cwS 3 hts gX5_install_X5_in rfl rfl rfl (by decide +kernel) ⟨Nat.le_of_ble_eq_true rfl, Nat.le_of_ble_eq_true rfl⟩) rfl hl.1 rfl (Nat.le_of_ble_eq_true rfl) dX5_install_17 ⟨Nat.le_of_ble_eq_true rfl, Nat.le_of_ble_eq_true rfl⟩) hS (fun r6_z g5_z H locs hp hW hS => ?_)
    obtain ⟨hf1, hp⟩ := hp
    have hf : Fr g g5_z := hf.trans hf1
    obtain ⟨hp, hg⟩ := hp
    subst hg
    rcases hp with ⟨rfl, c7_z⟩ | ⟨rfl, c7_z⟩
    · obtain ⟨k, hk1, hk, rfl⟩ := (bt_iff (n := 9) (by decide)).mp c7_z
      refine n_if_eq (tgt := 45) hx hb (by decide) dX5_install_20 (by decide) (fun h9 => absurd h9 (by decide)) (fun _ => ?_)
      refine lv_iload_n hx hb dX5_install_23 rfl (lv_at hl 3 rfl) ?_
      refine lv_iconst (v := nI 1) hx hb dX5_install_24 (by decide) ?_
      refine lv_bipush (v := nI 99) hx hb dX5_install_25 (by decide) ?_
      refine k_ci (k_rS (As := [.int (z), .int (nI (1)), .int (nI (99))]) (rest := [.ref (ad 20 0)]) M hW hS (c_X5_in l D Z N0 g ad (z) (nI (1)) (nI (99))) (va_cwS 3 hts gX5_install_X5_in rfl rfl rfl (by decide +kernel) ⟨Nat.le_of_ble_eq_true rfl, Nat.le_of_ble_eq_true rfl⟩) rfl hl.1 rfl (Nat.le_of_ble_eq_true rfl) dX5_install_27 ⟨Nat.le_of_ble_eq_true rfl, Nat.le_of_ble_eq_true rfl⟩) hS (fun r10_z g9_z H locs hp hW hS => ?_)
      obtain ⟨hf1, hp⟩ := hp
      have hf : Fr g g9_z := hf.trans hf1
      obtain ⟨hp, hg⟩ := hp
      subst hg
      rcases hp with ⟨rfl, c11_z⟩ | ⟨rfl, c11_z⟩
      · obtain ⟨v, hv1, hv, rfl⟩ := (bt_iff (n := 99) (by decide)).mp c11_z
        refine n_if_eq (tgt := 45) hx hb (by decide) dX5_install_30 (by decide) (fun h9 => absurd h9 (by decide)) (fun _ => ?_)
        refine lv_iload hx hb dX5_install_33 (lv_at hl 4 rfl) ?_
        refine lv_iconst (v := nI 0) hx hb dX5_install_35 (by decide) ?_
        refine lv_sipush (v := nI 999) hx hb dX5_install_36 (by decide) ?_
        refine k_ci (k_rS (As := [.int (t), .int (nI (0)), .int (nI (999))]) (rest := [.ref (ad 20 0)]) M hW hS (c_X5_in l D Z N0 g ad (t) (nI (0)) (nI (999))) (va_cwS 3 hts gX5_install_X5_in rfl rfl rfl (by decide +kernel) ⟨Nat.le_of_ble_eq_true rfl, Nat.le_of_ble_eq_true rfl⟩) rfl hl.1 rfl (Nat.le_of_ble_eq_true rfl) dX5_install_39 ⟨Nat.le_of_ble_eq_true rfl, Nat.le_of_ble_eq_true rfl⟩) hS (fun r14_z g13_z H locs hp hW hS => ?_)
        obtain ⟨hf1, hp⟩ := hp
        have hf : Fr g g13_z := hf.trans hf1
        obtain ⟨hp, hg⟩ := hp
        subst hg
        rcases hp with ⟨rfl, c15_z⟩ | ⟨rfl, c15_z⟩
        · obtain ⟨q, hq, rfl⟩ := (ix0_iff (n := 999) (by decide)).mp c15_z
          refine n_if_ne (tgt := 49) hx hb (by decide) dX5_install_42 (by decide) (fun _ => ?_) (fun h9 => absurd h9 (by decide))
          refine lv_iconst (v := nI 0) hx hb dX5_install_49 (by decide) ?_
          refine r_put M hW hS 20 0 (lvM _) rfl rfl i_X5 tyX5 tyX5_ok nmX5 20 (by decide) k_72 (fun _ h9 => h9) rfl (ty := .int) (by decide +kernel) rfl rfl (Nat.le_of_ble_eq_true rfl) rfl rfl (Or.inr (show 0 ≤ 3 by decide)) dX5_install_50 (fun H locs hW hS => ?_)
          obtain ⟨g17_z, eg17_z⟩ : ∃ z, z = up g 20 0 20 0 := ⟨_, rfl⟩
          rw [← eg17_z] at hW
          have hf : Fr g g17_z := by rw [eg17_z]; exact hf.up rfl
          refine lv_aload_n hx hb dX5_install_53 rfl (lv_at hl 0 rfl) ?_
          have b18_z : g17_z 20 0 20 ≤ 3 := hW.2.2.1.le 20 0 20 2 rfl
          refine r_get M hW 20 0 (lvM _) (v := .int (nI (g17_z 20 0 20))) rfl rfl i_X5 20 (by decide) k_72 (fun _ h9 => h9) rfl dX5_install_54 ?_
          have q19_z : g17_z 20 0 20 = 0 := by rw [eg17_z]; first | rfl | simp [up_at]
          refine W.eq (g2 := F0 mP 57 ls (.int (nI (0)) :: [])) (congrArg (fun z => F0 mP 57 ls (.int (nI z) :: [])) q19_z) ?_
          refine n_if_le (tgt := 62) hx hb (by decide) dX5_install_57 (by decide) (fun _ => ?_) (fun h9 => absurd h9 (by decide))
          refine lv_aload_n hx hb dX5_install_62 rfl (lv_at hl 0 rfl) ?_
          refine r_get M hW 20 0 (lvM _) (v := .ref (ad 27 0)) rfl rfl i_X5 6 (by decide) k_29 (fun _ h9 => h9) rfl dX5_install_63 ?_
          refine lv_iload_n hx hb dX5_install_66 rfl (lv_at hl 1 rfl) ?_
          refine lv_aload_n hx hb dX5_install_67 rfl (lv_at hl 0 rfl) ?_
          refine r_get M hW 20 0 (lvM _) (v := .ref (ad 25 0)) rfl rfl i_X5 4 (by decide) k_23 (fun _ h9 => h9) rfl dX5_install_68 ?_
          refine lv_iload_n hx hb dX5_install_71 rfl (lv_at hl 1 rfl) ?_
          refine r_iald M hW 25 0 ⟨rfl, by decide, by decide⟩ (n := 6) rfl (by omega) (by decide) dX5_install_72 ?_
          have b21_z : g17_z 25 0 i ≤ 1 := hW.2.2.1.le 25 0 i 0 rfl
          refine k_ci (k_rS (As := [.int (nI (i)), .int (nI (g17_z 25 0 i))]) (rest := [.ref (ad 27 0)]) M hW hS (c_X5_at l D Z N0 g17_z ad i (g17_z 25 0 i)) (va_cwS 2 hts gX5_install_X5_at rfl rfl rfl (by decide +kernel) ⟨Nat.le_of_ble_eq_true rfl, Nat.le_of_ble_eq_true rfl⟩) rfl hl.1 rfl (Nat.le_of_ble_eq_true rfl) dX5_install_73 ⟨Nat.le_of_ble_eq_true rfl, Nat.le_of_ble_eq_true rfl⟩) hS (fun r23_z g22_z H locs hp hW hS => ?_)
          obtain ⟨hf1, hp⟩ := hp
          have hf : Fr g g22_z := hf.trans hf1
          obtain ⟨rfl, hg⟩ := hp
          subst hg
          refine r_iald M hW 27 0 ⟨rfl, by decide, by decide⟩ (n := 12) rfl (by omega) (by decide) dX5_install_76 ?_
          have b24_z : g17_z 27 0 (2 * i + (g17_z 25 0 i)) ≤ 9 := hW.2.2.1.le 27 0 (2 * i + (g17_z 25 0 i)) 8 rfl
          refine n_if_ne (tgt := 89) hx hb (Nat.lt_of_le_of_lt b24_z (by decide)) dX5_install_77 (by decide) (fun c25_z => ?_) (fun c25_z => ?_)
          · refine lv_iconst (v := nI 1) hx hb dX5_install_89 (by decide) ?_
            refine lv_aload_n hx hb dX5_install_90 rfl (lv_at hl 0 rfl) ?_
            refine r_get M hW 20 0 (lvM _) (v := .ref (ad 25 0)) rfl rfl i_X5 4 (by decide) k_23 (fun _ h9 => h9) rfl dX5_install_91 ?_
            refine lv_iload_n hx hb dX5_install_94 rfl (lv_at hl 1 rfl) ?_
            refine r_iald M hW 25 0 ⟨rfl, by decide, by decide⟩ (n := 6) rfl (by omega) (by decide) dX5_install_95 ?_
            have b26_z : g17_z 25 0 i ≤ 1 := hW.2.2.1.le 25 0 i 0 rfl
            refine n_isub hx hb (by omega) dX5_install_96 ?_
            refine lv_istore (lv' := [(5, .int (nI (1 - (g17_z 25 0 i)))), (0, .ref (ad 20 0)), (1, .int (nI (i))), (2, .int (nI (k))), (3, .int (nI (v))), (4, .int (nI (q)))]) hx hb dX5_install_97 hl (by decide) rfl (fun ls hl => ?_)
            refine lv_aload_n hx hb dX5_install_99 rfl (lv_at hl 1 rfl) ?_
            refine r_get M hW 20 0 (lvM _) (v := .ref (ad 27 0)) rfl rfl i_X5 6 (by decide) k_29 (fun _ h9 => h9) rfl dX5_install_100 ?_
            refine lv_iload_n hx hb dX5_install_103 rfl (lv_at hl 2 rfl) ?_
            refine lv_iload hx hb dX5_install_104 (lv_at hl 0 rfl) ?_
            refine k_ci (k_rS (As := [.int (nI (i)), .int (nI (1 - (g17_z 25 0 i)))]) (rest := [.ref (ad 27 0)]) M hW hS (c_X5_at l D Z N0 g17_z ad i (1 - (g17_z 25 0 i))) (va_cwS 2 hts gX5_install_X5_at rfl rfl rfl (by decide +kernel) ⟨Nat.le_of_ble_eq_true rfl, Nat.le_of_ble_eq_true rfl⟩) rfl hl.1 rfl (Nat.le_of_ble_eq_true rfl) dX5_install_106 ⟨Nat.le_of_ble_eq_true rfl, Nat.le_of_ble_eq_true rfl⟩) hS (fun r28_z g27_z H locs hp hW hS => ?_)
            obtain ⟨hf1, hp⟩ := hp
            have hf : Fr g g27_z := hf.trans hf1
            obtain ⟨rfl, hg⟩ := hp
            subst hg
            refine lv_iload_n hx hb dX5_install_109 rfl (lv_at hl 3 rfl) ?_
            refine r_ist M hW hS 27 0 ⟨rfl, by decide, by decide⟩ (n := 12) (fun _ => rfl) (by omega) (by decide) rfl (Or.inr hk) dX5_install_110 (fun H locs hW hS => ?_)
            obtain ⟨g29_z, eg29_z⟩ : ∃ z, z = up g17_z 27 0 (2 * i + (1 - (g17_z 25 0 i))) k := ⟨_, rfl⟩
            rw [← eg29_z] at hW
            have hf : Fr g g29_z := by rw [eg29_z]; exact hf.up rfl
            refine lv_aload_n hx hb dX5_install_111 rfl (lv_at hl 1 rfl) ?_
            refine r_get M hW 20 0 (lvM _) (v := .ref (ad 28 0)) rfl rfl i_X5 7 (by decide) k_32 (fun _ h9 => h9) rfl dX5_install_112 ?_
            refine lv_iload_n hx hb dX5_install_115 rfl (lv_at hl 2 rfl) ?_
            refine lv_iload hx hb dX5_install_116 (lv_at hl 0 rfl) ?_
            refine k_ci (k_rS (As := [.int (nI (i)), .int (nI (1 - (g17_z 25 0 i)))]) (rest := [.ref (ad 28 0)]) M hW hS (c_X5_at l D Z N0 g29_z ad i (1 - (g17_z 25 0 i))) (va_cwS 2 hts gX5_install_X5_at rfl rfl rfl (by decide +kernel) ⟨Nat.le_of_ble_eq_true rfl, Nat.le_of_ble_eq_true rfl⟩) rfl hl.1 rfl (Nat.le_of_ble_eq_true rfl) dX5_install_118 ⟨Nat.le_of_ble_eq_true rfl, Nat.le_of_ble_eq_true rfl⟩) hS (fun r31_z g30_z H locs hp hW hS => ?_)
            obtain ⟨hf1, hp⟩ := hp
            have hf : Fr g g30_z := hf.trans hf1
            obtain ⟨rfl, hg⟩ := hp
            subst hg
            refine lv_iload_n hx hb dX5_install_121 rfl (lv_at hl 4 rfl) ?_
            refine r_ist M hW hS 28 0 ⟨rfl, by decide, by decide⟩ (n := 12) (fun _ => rfl) (by omega) (by decide) rfl (Or.inr hv) dX5_install_122 (fun H locs hW hS => ?_)
            obtain ⟨g32_z, eg32_z⟩ : ∃ z, z = up g29_z 28 0 (2 * i + (1 - (g17_z 25 0 i))) v := ⟨_, rfl⟩
            rw [← eg32_z] at hW
            have hf : Fr g g32_z := by rw [eg32_z]; exact hf.up rfl
            refine lv_aload_n hx hb dX5_install_123 rfl (lv_at hl 1 rfl) ?_
            refine r_get M hW 20 0 (lvM _) (v := .ref (ad 29 0)) rfl rfl i_X5 8 (by decide) k_35 (fun _ h9 => h9) rfl dX5_install_124 ?_
            refine lv_iload_n hx hb dX5_install_127 rfl (lv_at hl 2 rfl) ?_
            refine lv_iload hx hb dX5_install_128 (lv_at hl 0 rfl) ?_
            refine k_ci (k_rS (As := [.int (nI (i)), .int (nI (1 - (g17_z 25 0 i)))]) (rest := [.ref (ad 29 0)]) M hW hS (c_X5_at l D Z N0 g32_z ad i (1 - (g17_z 25 0 i))) (va_cwS 2 hts gX5_install_X5_at rfl rfl rfl (by decide +kernel) ⟨Nat.le_of_ble_eq_true rfl, Nat.le_of_ble_eq_true rfl⟩) rfl hl.1 rfl (Nat.le_of_ble_eq_true rfl) dX5_install_130 ⟨Nat.le_of_ble_eq_true rfl, Nat.le_of_ble_eq_true rfl⟩) hS (fun r34_z g33_z H locs hp hW hS => ?_)
            obtain ⟨hf1, hp⟩ := hp
            have hf : Fr g g33_z := hf.trans hf1
            obtain ⟨rfl, hg⟩ := hp
            subst hg
            refine lv_iload hx hb dX5_install_133 (lv_at hl 5 rfl) ?_
            refine r_ist M hW hS 29 0 ⟨rfl, by decide, by decide⟩ (n := 12) (fun _ => rfl) (by omega) (by decide) rfl (Or.inr (Nat.le_of_lt_succ hq)) dX5_install_135 (fun H locs hW hS => ?_)
            obtain ⟨g35_z, eg35_z⟩ : ∃ z, z = up g32_z 29 0 (2 * i + (1 - (g17_z 25 0 i))) q := ⟨_, rfl⟩
            rw [← eg35_z] at hW
            have hf : Fr g g35_z := by rw [eg35_z]; exact hf.up rfl
            refine lv_aload_n hx hb dX5_install_136 rfl (lv_at hl 1 rfl) ?_
            refine r_get M hW 20 0 (lvM _) (v := .ref (ad 22 0)) rfl rfl i_X5 1 (by decide) k_13 (fun _ h9 => h9) rfl dX5_install_137 ?_
            refine lv_iload_n hx hb dX5_install_140 rfl (lv_at hl 2 rfl) ?_
            refine lv_iload hx hb dX5_install_141 (lv_at hl 0 rfl) ?_
            refine k_ci (k_rS (As := [.int (nI (i)), .int (nI (1 - (g17_z 25 0 i)))]) (rest := [.ref (ad 22 0)]) M hW hS (c_X5_at l D Z N0 g35_z ad i (1 - (g17_z 25 0 i))) (va_cwS 2 hts gX5_install_X5_at rfl rfl rfl (by decide +kernel) ⟨Nat.le_of_ble_eq_true rfl, Nat.le_of_ble_eq_true rfl⟩) rfl hl.1 rfl (Nat.le_of_ble_eq_true rfl) dX5_install_143 ⟨Nat.le_of_ble_eq_true rfl, Nat.le_of_ble_eq_true rfl⟩) hS (fun r37_z g36_z H locs hp hW hS => ?_)
            obtain ⟨hf1, hp⟩ := hp
            have hf : Fr g g36_z := hf.trans hf1
            obtain ⟨rfl, hg⟩ := hp
            subst hg
            refine lv_iconst (v := nI 0) hx hb dX5_install_146 (by decide) ?_
            refine r_zst M hW hS 22 0 ⟨rfl, by decide, by decide⟩ (n := 12) (fun _ => rfl) (by omega) (by decide) rfl (show 0 ≤ 1 by decide) (Or.inr (show 0 ≤ 1 by decide)) dX5_install_147 (fun H locs hW hS => ?_)
            obtain ⟨g38_z, eg38_z⟩ : ∃ z, z = up g35_z 22 0 (2 * i + (1 - (g17_z 25 0 i))) 0 := ⟨_, rfl⟩
            rw [← eg38_z] at hW
            have hf : Fr g g38_z := by rw [eg38_z]; exact hf.up rfl
            refine lv_aload_n hx hb dX5_install_148 rfl (lv_at hl 1 rfl) ?_
            refine r_get M hW 20 0 (lvM _) (v := .ref (ad 25 0)) rfl rfl i_X5 4 (by decide) k_23 (fun _ h9 => h9) rfl dX5_install_149 ?_
            refine lv_iload_n hx hb dX5_install_152 rfl (lv_at hl 2 rfl) ?_
            refine lv_iload hx hb dX5_install_153 (lv_at hl 0 rfl) ?_
            refine r_ist M hW hS 25 0 ⟨rfl, by decide, by decide⟩ (n := 6) (fun _ => rfl) (by omega) (by decide) rfl (Or.inr (show 1 - (g17_z 25 0 i) ≤ 1 by omega)) dX5_install_155 (fun H locs hW hS => ?_)
            obtain ⟨g39_z, eg39_z⟩ : ∃ z, z = up g38_z 25 0 i (1 - (g17_z 25 0 i)) := ⟨_, rfl⟩
            rw [← eg39_z] at hW
            have hf : Fr g g39_z := by rw [eg39_z]; exact hf.up rfl
            refine lv_iload hx hb dX5_install_156 (lv_at hl 0 rfl) ?_
            -- path 1
            exact W.iret (v := nI (1 - (g17_z 25 0 i))) hx hb hr (fun t ht hW9 => ⟨⟨nI (1 - (g17_z 25 0 i)), g39_z, rfl, ⟨hf, (by subst eg39_z eg38_z eg35_z eg32_z eg29_z eg17_z; have hI9 : insS g i = 1 - g 25 0 i := if_neg c25_z; refine Or.inr (Or.inr ⟨i, k, v, q, hi, rfl, hk1, hk, rfl, hv1, hv, rfl, hq, rfl, ?_, ?_⟩) <;> rw [hI9] <;> rfl)⟩, (show Wd D Z N0 g39_z ad t.heap by rw [ht]; exact hW)⟩, hS.F ht⟩) hS.2.2 dX5_install_158
          · refine lv_aload_n hx hb dX5_install_80 rfl (lv_at hl 0 rfl) ?_
            refine r_get M hW 20 0 (lvM _) (v := .ref (ad 25 0)) rfl rfl i_X5 4 (by decide) k_23 (fun _ h9 => h9) rfl dX5_install_81 ?_
            refine lv_iload_n hx hb dX5_install_84 rfl (lv_at hl 1 rfl) ?_
            refine r_iald M hW 25 0 ⟨rfl, by decide, by decide⟩ (n := 6) rfl (by omega) (by decide) dX5_install_85 ?_
            have b40_z : g17_z 25 0 i ≤ 1 := hW.2.2.1.le 25 0 i 0 rfl
            refine lv_goto (tgt := 97) hx hb dX5_install_86 (by decide) ?_
            refine lv_istore (lv' := [(5, .int (nI (g17_z 25 0 i))), (0, .ref (ad 20 0)), (1, .int (nI (i))), (2, .int (nI (k))), (3, .int (nI (v))), (4, .int (nI (q)))]) hx hb dX5_install_97 hl (by decide) rfl (fun ls hl => ?_)
            refine lv_aload_n hx hb dX5_install_99 rfl (lv_at hl 1 rfl) ?_
            refine r_get M hW 20 0 (lvM _) (v := .ref (ad 27 0)) rfl rfl i_X5 6 (by decide) k_29 (fun _ h9 => h9) rfl dX5_install_100 ?_
            refine lv_iload_n hx hb dX5_install_103 rfl (lv_at hl 2 rfl) ?_
            refine lv_iload hx hb dX5_install_104 (lv_at hl 0 rfl) ?_
            refine k_ci (k_rS (As := [.int (nI (i)), .int (nI (g17_z 25 0 i))]) (rest := [.ref (ad 27 0)]) M hW hS (c_X5_at l D Z N0 g17_z ad i (g17_z 25 0 i)) (va_cwS 2 hts gX5_install_X5_at rfl rfl rfl (by decide +kernel) ⟨Nat.le_of_ble_eq_true rfl, Nat.le_of_ble_eq_true rfl⟩) rfl hl.1 rfl (Nat.le_of_ble_eq_true rfl) dX5_install_106 ⟨Nat.le_of_ble_eq_true rfl, Nat.le_of_ble_eq_true rfl⟩) hS (fun r42_z g41_z H locs hp hW hS => ?_)
            obtain ⟨hf1, hp⟩ := hp
            have hf : Fr g g41_z := hf.trans hf1
            obtain ⟨rfl, hg⟩ := hp
            subst hg
            refine lv_iload_n hx hb dX5_install_109 rfl (lv_at hl 3 rfl) ?_
            refine r_ist M hW hS 27 0 ⟨rfl, by decide, by decide⟩ (n := 12) (fun _ => rfl) (by omega) (by decide) rfl (Or.inr hk) dX5_install_110 (fun H locs hW hS => ?_)
            obtain ⟨g43_z, eg43_z⟩ : ∃ z, z = up g17_z 27 0 (2 * i + (g17_z 25 0 i)) k := ⟨_, rfl⟩
            rw [← eg43_z] at hW
            have hf : Fr g g43_z := by rw [eg43_z]; exact hf.up rfl
            refine lv_aload_n hx hb dX5_install_111 rfl (lv_at hl 1 rfl) ?_
            refine r_get M hW 20 0 (lvM _) (v := .ref (ad 28 0)) rfl rfl i_X5 7 (by decide) k_32 (fun _ h9 => h9) rfl dX5_install_112 ?_
            refine lv_iload_n hx hb dX5_install_115 rfl (lv_at hl 2 rfl) ?_
            refine lv_iload hx hb dX5_install_116 (lv_at hl 0 rfl) ?_
            refine k_ci (k_rS (As := [.int (nI (i)), .int (nI (g17_z 25 0 i))]) (rest := [.ref (ad 28 0)]) M hW hS (c_X5_at l D Z N0 g43_z ad i (g17_z 25 0 i)) (va_cwS 2 hts gX5_install_X5_at rfl rfl rfl (by decide +kernel) ⟨Nat.le_of_ble_eq_true rfl, Nat.le_of_ble_eq_true rfl⟩) rfl hl.1 rfl (Nat.le_of_ble_eq_true rfl) dX5_install_118 ⟨Nat.le_of_ble_eq_true rfl, Nat.le_of_ble_eq_true rfl⟩) hS (fun r45_z g44_z H locs hp hW hS => ?_)
            obtain ⟨hf1, hp⟩ := hp
            have hf : Fr g g44_z := hf.trans hf1
            obtain ⟨rfl, hg⟩ := hp
            subst hg
            refine lv_iload_n hx hb dX5_install_121 rfl (lv_at hl 4 rfl) ?_
            refine r_ist M hW hS 28 0 ⟨rfl, by decide, by decide⟩ (n := 12) (fun _ => rfl) (by omega) (by decide) rfl (Or.inr hv) dX5_install_122 (fun H locs hW hS => ?_)
            obtain ⟨g46_z, eg46_z⟩ : ∃ z, z = up g43_z 28 0 (2 * i + (g17_z 25 0 i)) v := ⟨_, rfl⟩
            rw [← eg46_z] at hW
            have hf : Fr g g46_z := by rw [eg46_z]; exact hf.up rfl
            refine lv_aload_n hx hb dX5_install_123 rfl (lv_at hl 1 rfl) ?_
            refine r_get M hW 20 0 (lvM _) (v := .ref (ad 29 0)) rfl rfl i_X5 8 (by decide) k_35 (fun _ h9 => h9) rfl dX5_install_124 ?_
            refine lv_iload_n hx hb dX5_install_127 rfl (lv_at hl 2 rfl) ?_
            refine lv_iload hx hb dX5_install_128 (lv_at hl 0 rfl) ?_
            refine k_ci (k_rS (As := [.int (nI (i)), .int (nI (g17_z 25 0 i))]) (rest := [.ref (ad 29 0)]) M hW hS (c_X5_at l D Z N0 g46_z ad i (g17_z 25 0 i)) (va_cwS 2 hts gX5_install_X5_at rfl rfl rfl (by decide +kernel) ⟨Nat.le_of_ble_eq_true rfl, Nat.le_of_ble_eq_true rfl⟩) rfl hl.1 rfl (Nat.le_of_ble_eq_true rfl) dX5_install_130 ⟨Nat.le_of_ble_eq_true rfl, Nat.le_of_ble_eq_true rfl⟩) hS (fun r48_z g47_z H locs hp hW hS => ?_)
            obtain ⟨hf1, hp⟩ := hp
            have hf : Fr g g47_z := hf.trans hf1
            obtain ⟨rfl, hg⟩ := hp
            subst hg
            refine lv_iload hx hb dX5_install_133 (lv_at hl 5 rfl) ?_
            refine r_ist M hW hS 29 0 ⟨rfl, by decide, by decide⟩ (n := 12) (fun _ => rfl) (by omega) (by decide) rfl (Or.inr (Nat.le_of_lt_succ hq)) dX5_install_135 (fun H locs hW hS => ?_)
            obtain ⟨g49_z, eg49_z⟩ : ∃ z, z = up g46_z 29 0 (2 * i + (g17_z 25 0 i)) q := ⟨_, rfl⟩
            rw [← eg49_z] at hW
            have hf : Fr g g49_z := by rw [eg49_z]; exact hf.up rfl
            refine lv_aload_n hx hb dX5_install_136 rfl (lv_at hl 1 rfl) ?_
            refine r_get M hW 20 0 (lvM _) (v := .ref (ad 22 0)) rfl rfl i_X5 1 (by decide) k_13 (fun _ h9 => h9) rfl dX5_install_137 ?_
            refine lv_iload_n hx hb dX5_install_140 rfl (lv_at hl 2 rfl) ?_
            refine lv_iload hx hb dX5_install_141 (lv_at hl 0 rfl) ?_
            refine k_ci (k_rS (As := [.int (nI (i)), .int (nI (g17_z 25 0 i))]) (rest := [.ref (ad 22 0)]) M hW hS (c_X5_at l D Z N0 g49_z ad i (g17_z 25 0 i)) (va_cwS 2 hts gX5_install_X5_at rfl rfl rfl (by decide +kernel) ⟨Nat.le_of_ble_eq_true rfl, Nat.le_of_ble_eq_true rfl⟩) rfl hl.1 rfl (Nat.le_of_ble_eq_true rfl) dX5_install_143 ⟨Nat.le_of_ble_eq_true rfl, Nat.le_of_ble_eq_true rfl⟩) hS (fun r51_z g50_z H locs hp hW hS => ?_)
            obtain ⟨hf1, hp⟩ := hp
            have hf : Fr g g50_z := hf.trans hf1
            obtain ⟨rfl, hg⟩ := hp
            subst hg
            refine lv_iconst (v := nI 0) hx hb dX5_install_146 (by decide) ?_
            refine r_zst M hW hS 22 0 ⟨rfl, by decide, by decide⟩ (n := 12) (fun _ => rfl) (by omega) (by decide) rfl (show 0 ≤ 1 by decide) (Or.inr (show 0 ≤ 1 by decide)) dX5_install_147 (fun H locs hW hS => ?_)
            obtain ⟨g52_z, eg52_z⟩ : ∃ z, z = up g49_z 22 0 (2 * i + (g17_z 25 0 i)) 0 := ⟨_, rfl⟩
            rw [← eg52_z] at hW
            have hf : Fr g g52_z := by rw [eg52_z]; exact hf.up rfl
            refine lv_aload_n hx hb dX5_install_148 rfl (lv_at hl 1 rfl) ?_
            refine r_get M hW 20 0 (lvM _) (v := .ref (ad 25 0)) rfl rfl i_X5 4 (by decide) k_23 (fun _ h9 => h9) rfl dX5_install_149 ?_
            refine lv_iload_n hx hb dX5_install_152 rfl (lv_at hl 2 rfl) ?_
            refine lv_iload hx hb dX5_install_153 (lv_at hl 0 rfl) ?_
            refine r_ist M hW hS 25 0 ⟨rfl, by decide, by decide⟩ (n := 6) (fun _ => rfl) (by omega) (by decide) rfl (Or.inr b40_z) dX5_install_155 (fun H locs hW hS => ?_)
            obtain ⟨g53_z, eg53_z⟩ : ∃ z, z = up g52_z 25 0 i (g17_z 25 0 i) := ⟨_, rfl⟩
            rw [← eg53_z] at hW
            have hf : Fr g g53_z := by rw [eg53_z]; exact hf.up rfl
            refine lv_iload hx hb dX5_install_156 (lv_at hl 0 rfl) ?_
            -- path 2
            exact W.iret (v := nI (g17_z 25 0 i)) hx hb hr (fun t ht hW9 => ⟨⟨nI (g17_z 25 0 i), g53_z, rfl, ⟨hf, (by subst eg53_z eg52_z eg49_z eg46_z eg43_z eg17_z; have hI9 : insS g i = g 25 0 i := if_pos c25_z; refine Or.inr (Or.inr ⟨i, k, v, q, hi, rfl, hk1, hk, rfl, hv1, hv, rfl, hq, rfl, ?_, ?_⟩) <;> rw [hI9] <;> rfl)⟩, (show Wd D Z N0 g53_z ad t.heap by rw [ht]; exact hW)⟩, hS.F ht⟩) hS.2.2 dX5_install_158
        · refine n_if_ne (tgt := 49) hx hb (by decide) dX5_install_42 (by decide) (fun h9 => absurd h9 (by decide)) (fun _ => ?_)
          refine lv_iconst (v := nI 2) hx hb dX5_install_45 (by decide) ?_
          refine lv_goto (tgt := 50) hx hb dX5_install_46 (by decide) ?_
          refine r_put M hW hS 20 0 (lvM _) rfl rfl i_X5 tyX5 tyX5_ok nmX5 20 (by decide) k_72 (fun _ h9 => h9) rfl (ty := .int) (by decide +kernel) rfl rfl (Nat.le_of_ble_eq_true rfl) rfl rfl (Or.inr (show 2 ≤ 3 by decide)) dX5_install_50 (fun H locs hW hS => ?_)
          obtain ⟨g55_z, eg55_z⟩ : ∃ z, z = up g 20 0 20 2 := ⟨_, rfl⟩
          rw [← eg55_z] at hW
          have hf : Fr g g55_z := by rw [eg55_z]; exact hf.up rfl
          refine lv_aload_n hx hb dX5_install_53 rfl (lv_at hl 0 rfl) ?_
          have b56_z : g55_z 20 0 20 ≤ 3 := hW.2.2.1.le 20 0 20 2 rfl
          refine r_get M hW 20 0 (lvM _) (v := .int (nI (g55_z 20 0 20))) rfl rfl i_X5 20 (by decide) k_72 (fun _ h9 => h9) rfl dX5_install_54 ?_
          have q57_z : g55_z 20 0 20 = 2 := by rw [eg55_z]; first | rfl | simp [up_at]
          refine W.eq (g2 := F0 mP 57 ls (.int (nI (2)) :: [])) (congrArg (fun z => F0 mP 57 ls (.int (nI z) :: [])) q57_z) ?_
          refine n_if_le (tgt := 62) hx hb (by decide) dX5_install_57 (by decide) (fun h9 => absurd h9 (by decide)) (fun _ => ?_)
          refine lv_iconst (v := nI 0) hx hb dX5_install_60 (by decide) ?_
          -- path 3
          exact W.iret (v := nI (0)) hx hb hr (fun t ht hW9 => ⟨⟨nI (0), g55_z, rfl, ⟨hf, (by subst eg55_z; exact Or.inr (Or.inl ⟨⟨i, hi, rfl⟩, Or.inr (Or.inr (fun h => c15_z ((ix0_iff (n := 999) (by decide)).mpr h))), rfl, rfl⟩))⟩, (show Wd D Z N0 g55_z ad t.heap by rw [ht]; exact hW)⟩, hS.F ht⟩) hS.2.2 dX5_install_61
      · refine n_if_eq (tgt := 45) hx hb (by decide) dX5_install_30 (by decide) (fun _ => ?_) (fun h9 => absurd h9 (by decide))
        refine lv_iconst (v := nI 2) hx hb dX5_install_45 (by decide) ?_
        refine lv_goto (tgt := 50) hx hb dX5_install_46 (by decide) ?_
        refine r_put M hW hS 20 0 (lvM _) rfl rfl i_X5 tyX5 tyX5_ok nmX5 20 (by decide) k_72 (fun _ h9 => h9) rfl (ty := .int) (by decide +kernel) rfl rfl (Nat.le_of_ble_eq_true rfl) rfl rfl (Or.inr (show 2 ≤ 3 by decide)) dX5_install_50 (fun H locs hW hS => ?_)
        obtain ⟨g60_z, eg60_z⟩ : ∃ z, z = up g 20 0 20 2 := ⟨_, rfl⟩
        rw [← eg60_z] at hW
        have hf : Fr g g60_z := by rw [eg60_z]; exact hf.up rfl
        refine lv_aload_n hx hb dX5_install_53 rfl (lv_at hl 0 rfl) ?_
        have b61_z : g60_z 20 0 20 ≤ 3 := hW.2.2.1.le 20 0 20 2 rfl
        refine r_get M hW 20 0 (lvM _) (v := .int (nI (g60_z 20 0 20))) rfl rfl i_X5 20 (by decide) k_72 (fun _ h9 => h9) rfl dX5_install_54 ?_
        have q62_z : g60_z 20 0 20 = 2 := by rw [eg60_z]; first | rfl | simp [up_at]
        refine W.eq (g2 := F0 mP 57 ls (.int (nI (2)) :: [])) (congrArg (fun z => F0 mP 57 ls (.int (nI z) :: [])) q62_z) ?_
        refine n_if_le (tgt := 62) hx hb (by decide) dX5_install_57 (by decide) (fun h9 => absurd h9 (by decide)) (fun _ => ?_)
        refine lv_iconst (v := nI 0) hx hb dX5_install_60 (by decide) ?_
        -- path 4
        exact W.iret (v := nI (0)) hx hb hr (fun t ht hW9 => ⟨⟨nI (0), g60_z, rfl, ⟨hf, (by subst eg60_z; exact Or.inr (Or.inl ⟨⟨i, hi, rfl⟩, Or.inr (Or.inl (fun h => c11_z ((bt_iff (n := 99) (by decide)).mpr h))), rfl, rfl⟩))⟩, (show Wd D Z N0 g60_z ad t.heap by rw [ht]; exact hW)⟩, hS.F ht⟩) hS.2.2 dX5_install_61
    · refine n_if_eq (tgt := 45) hx hb (by decide) dX5_install_20 (by decide) (fun _ => ?_) (fun h9 => absurd h9 (by decide))
      refine lv_iconst (v := nI 2) hx hb dX5_install_45 (by decide) ?_
      refine lv_goto (tgt := 50) hx hb dX5_install_46 (by decide) ?_
      refine r_put M hW hS 20 0 (lvM _) rfl rfl i_X5 tyX5 tyX5_ok nmX5 20 (by decide) k_72 (fun _ h9 => h9) rfl (ty := .int) (by decide +kernel) rfl rfl (Nat.le_of_ble_eq_true rfl) rfl rfl (Or.inr (show 2 ≤ 3 by decide)) dX5_install_50 (fun H locs hW hS => ?_)
      obtain ⟨g65_z, eg65_z⟩ : ∃ z, z = up g 20 0 20 2 := ⟨_, rfl⟩
      rw [← eg65_z] at hW
      have hf : Fr g g65_z := by rw [eg65_z]; exact hf.up rfl
      refine lv_aload_n hx hb dX5_install_53 rfl (lv_at hl 0 rfl) ?_
      have b66_z : g65_z 20 0 20 ≤ 3 := hW.2.2.1.le 20 0 20 2 rfl
      refine r_get M hW 20 0 (lvM _) (v := .int (nI (g65_z 20 0 20))) rfl rfl i_X5 20 (by decide) k_72 (fun _ h9 => h9) rfl dX5_install_54 ?_
      have q67_z : g65_z 20 0 20 = 2 := by rw [eg65_z]; first | rfl | simp [up_at]
      refine W.eq (g2 := F0 mP 57 ls (.int (nI (2)) :: [])) (congrArg (fun z => F0 mP 57 ls (.int (nI z) :: [])) q67_z) ?_
      refine n_if_le (tgt := 62) hx hb (by decide) dX5_install_57 (by decide) (fun h9 => absurd h9 (by decide)) (fun _ => ?_)
      refine lv_iconst (v := nI 0) hx hb dX5_install_60 (by decide) ?_
      -- path 5
      exact W.iret (v := nI (0)) hx hb hr (fun t ht hW9 => ⟨⟨nI (0), g65_z, rfl, ⟨hf, (by subst eg65_z; exact Or.inr (Or.inl ⟨⟨i, hi, rfl⟩, Or.inl (fun h => c7_z ((bt_iff (n := 9) (by decide)).mpr h)), rfl, rfl⟩))⟩, (show Wd D Z N0 g65_z ad t.heap by rw [ht]; exact hW)⟩, hS.F ht⟩) hS.2.2 dX5_install_61
  · refine n_if_ne (tgt := 13) hx hb (by decide) dX5_install_6 (by decide) (fun h9 => absurd h9 (by decide)) (fun _ => ?_)
    refine lv_iconst (v := nI 1) hx hb dX5_install_9 (by decide) ?_
    refine lv_goto (tgt := 50) hx hb dX5_install_10 (by decide) ?_
    refine r_put M hW hS 20 0 (lvM _) rfl rfl i_X5 tyX5 tyX5_ok nmX5 20 (by decide) k_72 (fun _ h9 => h9) rfl (ty := .int) (by decide +kernel) rfl rfl (Nat.le_of_ble_eq_true rfl) rfl rfl (Or.inr (show 1 ≤ 3 by decide)) dX5_install_50 (fun H locs hW hS => ?_)
    obtain ⟨g70_z, eg70_z⟩ : ∃ z, z = up g 20 0 20 1 := ⟨_, rfl⟩
    rw [← eg70_z] at hW
    have hf : Fr g g70_z := by rw [eg70_z]; exact hf.up rfl
    refine lv_aload_n hx hb dX5_install_53 rfl (lv_at hl 0 rfl) ?_
    have b71_z : g70_z 20 0 20 ≤ 3 := hW.2.2.1.le 20 0 20 2 rfl
    refine r_get M hW 20 0 (lvM _) (v := .int (nI (g70_z 20 0 20))) rfl rfl i_X5 20 (by decide) k_72 (fun _ h9 => h9) rfl dX5_install_54 ?_
    have q72_z : g70_z 20 0 20 = 1 := by rw [eg70_z]; first | rfl | simp [up_at]
    refine W.eq (g2 := F0 mP 57 ls (.int (nI (1)) :: [])) (congrArg (fun z => F0 mP 57 ls (.int (nI z) :: [])) q72_z) ?_
    refine n_if_le (tgt := 62) hx hb (by decide) dX5_install_57 (by decide) (fun h9 => absurd h9 (by decide)) (fun _ => ?_)
    refine lv_iconst (v := nI 0) hx hb dX5_install_60 (by decide) ?_
    -- path 6
    exact W.iret (v := nI (0)) hx hb hr (fun t ht hW9 => ⟨⟨nI (0), g70_z, rfl, ⟨hf, (by subst eg70_z; exact Or.inl ⟨c3_z, rfl, rfl⟩)⟩, (show Wd D Z N0 g70_z ad t.heap by rw [ht]; exact hW)⟩, hS.F ht⟩) hS.2.2 dX5_install_61

set_option maxHeartbeats 4000000 in
set_option maxRecDepth 100000 in
theorem c_X5_wrongSlot (l : Launch) (D : va_G) (Z : Nat → Nat) (N0 : Nat) (g : T3) (ad : T2) (x y : Int32) : Met l yX5_wrongSlot wsX5_wrongSlot ({ frames := 2, cells := 0, slots := 0, locals := 140 } : Room) (PC D Z N0 g ad [.ref (ad 20 0), .int (x), .int (y)]) (QI D Z N0 ad (fun (r : Int32) (g1 : T3) => Fr g g1 ∧ (((r = nI 1 ∧ (¬ Ix (g 20 0 21) x ∨ ¬ Ix 2 y)) ∨ (r = nI 2 ∧ (∃ i s, i < g 20 0 21 ∧ x = nI i ∧ s < 2 ∧ y = nI s ∧ g 27 0 (2 * i + s) = 0)) ∨ (r = nI 0 ∧ ∃ i s, i < g 20 0 21 ∧ x = nI i ∧ s < 2 ∧ y = nI s ∧ ¬ g 27 0 (2 * i + s) = 0)) ∧ g = g1))) 0 0 (AA N0) := by
  refine Met.ofW (cc := cX5_wrongSlot) (maxL := 3) (ret := (some .int)) (by decide) rfl ?_
  intro pP eP sP mP args below meth cP s₁ B hmlP hvP
  obtain ⟨rfl, hW, hC⟩ := hvP
  have hx := B.exec
  have hb := B.bytes
  have hr := B.returns
  have hts := atoms_spec (ws := wsX5_wrongSlot) B.pre
  have hown : sP.vm.findClass RX5 = some mP.cls := findClass_of_methodNamed B.named
  have hlocks := B.notSynchronized
  have i_X5 : ∀ w ∈ wsX50, w ∈ wsX5_wrongSlot := (fun _ h => List.mem_cons_of_mem _ (List.mem_append_left _ (List.mem_append_right _ h)))
  have k_29 : Cond.fieldLink RX5 29 "StartChainModel" "keys" "[I" ∈ wsX5_wrongSlot := by decide +kernel
  have M : Mx pP mP cP cX5_wrongSlot 3 sP ([.ref (ad 20 0), .int (x), .int (y)] : List Value).toArray wsX5_wrongSlot RX5 D Z N0 := ⟨⟨hx, hb, hmlP, hown, hts⟩, hC⟩
  have hf : Fr g g := Fr.rf g
  have hS : va_S (AA N0) sP.heap sP.heap [] := va_S.rf
  have hl := lv_entry ([.ref (ad 20 0), .int (x), .int (y)]) (n := 3) (Nat.le_of_ble_eq_true rfl)
  rw [lg_entry_eq]
  generalize (lg_sl ([.ref (ad 20 0), .int (x), .int (y)]) ++ List.replicate (3 - (lg_sl ([.ref (ad 20 0), .int (x), .int (y)])).length) Slot.unset).toArray = ls at hl ⊢
  have hl : lv_has ls 3 [(0, .ref (ad 20 0)), (1, .int (x)), (2, .int (y))] := hl
  have hsz9 := hW.2.2.1.le 20 0 21 5 rfl
  refine lv_aload_n hx hb dX5_wrongSlot_0 rfl (lv_at hl 0 rfl) ?_
  refine lv_iload_n hx hb dX5_wrongSlot_1 rfl (lv_at hl 1 rfl) ?_
  refine k_ci (k_rV (As := [.int (x)]) (rest := []) M hW hS (c_X5_isStage l D Z N0 g ad (x)) (cwV 1 hts gX5_wrongSlot_X5_isStage rfl rfl rfl (by decide +kernel) ⟨Nat.le_of_ble_eq_true rfl, Nat.le_of_ble_eq_true rfl⟩) (r_recv M.2 hW 20 0 (lvM _) rfl rfl) rfl hl.1 rfl (Nat.le_of_ble_eq_true rfl) dX5_wrongSlot_2 ⟨Nat.le_of_ble_eq_true rfl, Nat.le_of_ble_eq_true rfl⟩) hS (fun r2_z g1_z H locs hp hW hS => ?_)
  obtain ⟨hf1, hp⟩ := hp
  have hf : Fr g g1_z := hf.trans hf1
  obtain ⟨hp, hg⟩ := hp
  subst hg
  rcases hp with ⟨rfl, c3_z⟩ | ⟨rfl, c3_z⟩
  · obtain ⟨i, hi, rfl⟩ := c3_z
    refine n_if_eq (tgt := 17) hx hb (by decide) dX5_wrongSlot_5 (by decide) (fun h9 => absurd h9 (by decide)) (fun _ => ?_)
    refine lv_iload_n hx hb dX5_wrongSlot_8 rfl (lv_at hl 2 rfl) ?_
    refine lv_iconst (v := nI 0) hx hb dX5_wrongSlot_9 (by decide) ?_
    refine lv_iconst (v := nI 1) hx hb dX5_wrongSlot_10 (by decide) ?_
    refine k_ci (k_rS (As := [.int (y), .int (nI (0)), .int (nI (1))]) (rest := []) M hW hS (c_X5_in l D Z N0 g ad (y) (nI (0)) (nI (1))) (va_cwS 3 hts gX5_wrongSlot_X5_in rfl rfl rfl (by decide +kernel) ⟨Nat.le_of_ble_eq_true rfl, Nat.le_of_ble_eq_true rfl⟩) rfl hl.1 rfl (Nat.le_of_ble_eq_true rfl) dX5_wrongSlot_11 ⟨Nat.le_of_ble_eq_true rfl, Nat.le_of_ble_eq_true rfl⟩) hS (fun r6_z g5_z H locs hp hW hS => ?_)
    obtain ⟨hf1, hp⟩ := hp
    have hf : Fr g g5_z := hf.trans hf1
    obtain ⟨hp, hg⟩ := hp
    subst hg
    rcases hp with ⟨rfl, c7_z⟩ | ⟨rfl, c7_z⟩
    · obtain ⟨s, hs, rfl⟩ := (ix0_iff (n := 1) (by decide)).mp c7_z
      refine n_if_ne (tgt := 21) hx hb (by decide) dX5_wrongSlot_14 (by decide) (fun _ => ?_) (fun h9 => absurd h9 (by decide))
      refine lv_aload_n hx hb dX5_wrongSlot_21 rfl (lv_at hl 0 rfl) ?_
      refine r_get M hW 20 0 (lvM _) (v := .ref (ad 27 0)) rfl rfl i_X5 6 (by decide) k_29 (fun _ h9 => h9) rfl dX5_wrongSlot_22 ?_
      refine lv_iload_n hx hb dX5_wrongSlot_25 rfl (lv_at hl 1 rfl) ?_
      refine lv_iload_n hx hb dX5_wrongSlot_26 rfl (lv_at hl 2 rfl) ?_
      refine k_ci (k_rS (As := [.int (nI (i)), .int (nI (s))]) (rest := [.ref (ad 27 0)]) M hW hS (c_X5_at l D Z N0 g ad i s) (va_cwS 2 hts gX5_wrongSlot_X5_at rfl rfl rfl (by decide +kernel) ⟨Nat.le_of_ble_eq_true rfl, Nat.le_of_ble_eq_true rfl⟩) rfl hl.1 rfl (Nat.le_of_ble_eq_true rfl) dX5_wrongSlot_27 ⟨Nat.le_of_ble_eq_true rfl, Nat.le_of_ble_eq_true rfl⟩) hS (fun r10_z g9_z H locs hp hW hS => ?_)
      obtain ⟨hf1, hp⟩ := hp
      have hf : Fr g g9_z := hf.trans hf1
      obtain ⟨rfl, hg⟩ := hp
      subst hg
      refine r_iald M hW 27 0 ⟨rfl, by decide, by decide⟩ (n := 12) rfl (by omega) (by decide) dX5_wrongSlot_30 ?_
      have b11_z : g 27 0 (2 * i + s) ≤ 9 := hW.2.2.1.le 27 0 (2 * i + s) 8 rfl
      refine n_if_ne (tgt := 38) hx hb (Nat.lt_of_le_of_lt b11_z (by decide)) dX5_wrongSlot_31 (by decide) (fun c12_z => ?_) (fun c12_z => ?_)
      · refine lv_iconst (v := nI 0) hx hb dX5_wrongSlot_38 (by decide) ?_
        -- path 1
        exact W.iret (v := nI (0)) hx hb hr (fun t ht hW9 => ⟨⟨nI (0), g, rfl, ⟨hf, (by exact ⟨Or.inr (Or.inr ⟨rfl, i, s, hi, rfl, hs, rfl, c12_z⟩), rfl⟩)⟩, (show Wd D Z N0 g ad t.heap by rw [ht]; exact hW)⟩, hS.F ht⟩) hS.2.2 dX5_wrongSlot_39
      · refine lv_iconst (v := nI 2) hx hb dX5_wrongSlot_34 (by decide) ?_
        refine lv_goto (tgt := 39) hx hb dX5_wrongSlot_35 (by decide) ?_
        -- path 2
        exact W.iret (v := nI (2)) hx hb hr (fun t ht hW9 => ⟨⟨nI (2), g, rfl, ⟨hf, (by exact ⟨Or.inr (Or.inl ⟨rfl, i, s, hi, rfl, hs, rfl, c12_z⟩), rfl⟩)⟩, (show Wd D Z N0 g ad t.heap by rw [ht]; exact hW)⟩, hS.F ht⟩) hS.2.2 dX5_wrongSlot_39
    · refine n_if_ne (tgt := 21) hx hb (by decide) dX5_wrongSlot_14 (by decide) (fun h9 => absurd h9 (by decide)) (fun _ => ?_)
      refine lv_iconst (v := nI 1) hx hb dX5_wrongSlot_17 (by decide) ?_
      refine lv_goto (tgt := 39) hx hb dX5_wrongSlot_18 (by decide) ?_
      -- path 3
      exact W.iret (v := nI (1)) hx hb hr (fun t ht hW9 => ⟨⟨nI (1), g, rfl, ⟨hf, (by exact ⟨Or.inl ⟨rfl, Or.inr (fun h => c7_z ((ix0_iff (n := 1) (by decide)).mpr h))⟩, rfl⟩)⟩, (show Wd D Z N0 g ad t.heap by rw [ht]; exact hW)⟩, hS.F ht⟩) hS.2.2 dX5_wrongSlot_39
  · refine n_if_eq (tgt := 17) hx hb (by decide) dX5_wrongSlot_5 (by decide) (fun _ => ?_) (fun h9 => absurd h9 (by decide))
    refine lv_iconst (v := nI 1) hx hb dX5_wrongSlot_17 (by decide) ?_
    refine lv_goto (tgt := 39) hx hb dX5_wrongSlot_18 (by decide) ?_
    -- path 4
    exact W.iret (v := nI (1)) hx hb hr (fun t ht hW9 => ⟨⟨nI (1), g, rfl, ⟨hf, (by exact ⟨Or.inl ⟨rfl, Or.inl c3_z⟩, rfl⟩)⟩, (show Wd D Z N0 g ad t.heap by rw [ht]; exact hW)⟩, hS.F ht⟩) hS.2.2 dX5_wrongSlot_39

set_option maxHeartbeats 4000000 in
set_option maxRecDepth 100000 in
theorem c_X5_setBad (l : Launch) (D : va_G) (Z : Nat → Nat) (N0 : Nat) (g : T3) (ad : T2) (x y : Int32) (b : Nat) (hb1 : b ≤ 1) : Met l yX5_setBad wsX5_setBad ({ frames := 3, cells := 0, slots := 0, locals := 180 } : Room) (PC D Z N0 g ad [.ref (ad 20 0), .int (x), .int (y), .int (nI (b))]) (QI D Z N0 ad (fun (r : Int32) (g1 : T3) => Fr g g1 ∧ (((¬ Ix (g 20 0 21) x ∨ ¬ Ix 2 y) ∧ r = nI 0 ∧ g1 = up g 20 0 20 1) ∨ ((∃ i s, i < g 20 0 21 ∧ x = nI i ∧ s < 2 ∧ y = nI s ∧ g 27 0 (2 * i + s) = 0) ∧ r = nI 0 ∧ g1 = up g 20 0 20 2) ∨ (∃ i s, i < g 20 0 21 ∧ x = nI i ∧ s < 2 ∧ y = nI s ∧ ¬ g 27 0 (2 * i + s) = 0 ∧ r = nI (g 22 0 (2 * i + s)) ∧ g1 = up (up g 20 0 20 0) 22 0 (2 * i + s) b)))) 0 0 (AA N0) := by
  refine Met.ofW (cc := cX5_setBad) (maxL := 5) (ret := (some .boolean)) (by decide) rfl ?_
  intro pP eP sP mP args below meth cP s₁ B hmlP hvP
  obtain ⟨rfl, hW, hC⟩ := hvP
  have hx := B.exec
  have hb := B.bytes
  have hr := B.returns
  have hts := atoms_spec (ws := wsX5_setBad) B.pre
  have hown : sP.vm.findClass RX5 = some mP.cls := findClass_of_methodNamed B.named
  have hlocks := B.notSynchronized
  have i_X5 : ∀ w ∈ wsX50, w ∈ wsX5_setBad := (fun _ h => List.mem_cons_of_mem _ (List.mem_append_left _ (List.mem_append_right _ h)))
  have k_72 : Cond.fieldLink RX5 72 "StartChainModel" "thrown" "I" ∈ wsX5_setBad := by decide +kernel
  have k_13 : Cond.fieldLink RX5 13 "StartChainModel" "areBad" "[Z" ∈ wsX5_setBad := by decide +kernel
  have M : Mx pP mP cP cX5_setBad 5 sP ([.ref (ad 20 0), .int (x), .int (y), .int (nI (b))] : List Value).toArray wsX5_setBad RX5 D Z N0 := ⟨⟨hx, hb, hmlP, hown, hts⟩, hC⟩
  have hf : Fr g g := Fr.rf g
  have hS : va_S (AA N0) sP.heap sP.heap [] := va_S.rf
  have hl := lv_entry ([.ref (ad 20 0), .int (x), .int (y), .int (nI (b))]) (n := 5) (Nat.le_of_ble_eq_true rfl)
  rw [lg_entry_eq]
  generalize (lg_sl ([.ref (ad 20 0), .int (x), .int (y), .int (nI (b))]) ++ List.replicate (5 - (lg_sl ([.ref (ad 20 0), .int (x), .int (y), .int (nI (b))])).length) Slot.unset).toArray = ls at hl ⊢
  have hl : lv_has ls 5 [(0, .ref (ad 20 0)), (1, .int (x)), (2, .int (y)), (3, .int (nI (b)))] := hl
  have hsz9 := hW.2.2.1.le 20 0 21 5 rfl
  refine lv_aload_n hx hb dX5_setBad_0 rfl (lv_at hl 0 rfl) ?_
  refine lv_aload_n hx hb dX5_setBad_1 rfl (lv_at hl 0 rfl) ?_
  refine lv_iload_n hx hb dX5_setBad_2 rfl (lv_at hl 1 rfl) ?_
  refine lv_iload_n hx hb dX5_setBad_3 rfl (lv_at hl 2 rfl) ?_
  refine k_ci (k_rV (As := [.int (x), .int (y)]) (rest := [.ref (ad 20 0)]) M hW hS (c_X5_wrongSlot l D Z N0 g ad (x) (y)) (cwV 2 hts gX5_setBad_X5_wrongSlot rfl rfl rfl (by decide +kernel) ⟨Nat.le_of_ble_eq_true rfl, Nat.le_of_ble_eq_true rfl⟩) (r_recv M.2 hW 20 0 (lvM _) rfl rfl) rfl hl.1 rfl (Nat.le_of_ble_eq_true rfl) dX5_setBad_4 ⟨Nat.le_of_ble_eq_true rfl, Nat.le_of_ble_eq_true rfl⟩) hS (fun r2_z g1_z H locs hp hW hS => ?_)
  obtain ⟨hf1, hp⟩ := hp
  have hf : Fr g g1_z := hf.trans hf1
  obtain ⟨hp, hg⟩ := hp
  subst hg
  rcases hp with ⟨rfl, hw9⟩ | ⟨rfl, hw9⟩ | ⟨rfl, i, s, hi, rfl, hs, rfl, hw9⟩
  · refine r_put M hW hS 20 0 (lvM _) rfl rfl i_X5 tyX5 tyX5_ok nmX5 20 (by decide) k_72 (fun _ h9 => h9) rfl (ty := .int) (by decide +kernel) rfl rfl (Nat.le_of_ble_eq_true rfl) rfl rfl (Or.inr (show 1 ≤ 3 by decide)) dX5_setBad_7 (fun H locs hW hS => ?_)
    obtain ⟨g3_z, eg3_z⟩ : ∃ z, z = up g 20 0 20 1 := ⟨_, rfl⟩
    rw [← eg3_z] at hW
    have hf : Fr g g3_z := by rw [eg3_z]; exact hf.up rfl
    refine lv_aload_n hx hb dX5_setBad_10 rfl (lv_at hl 0 rfl) ?_
    have b4_z : g3_z 20 0 20 ≤ 3 := hW.2.2.1.le 20 0 20 2 rfl
    refine r_get M hW 20 0 (lvM _) (v := .int (nI (g3_z 20 0 20))) rfl rfl i_X5 20 (by decide) k_72 (fun _ h9 => h9) rfl dX5_setBad_11 ?_
    have q5_z : g3_z 20 0 20 = 1 := by rw [eg3_z]; first | rfl | simp [up_at]
    refine W.eq (g2 := F0 mP 14 ls (.int (nI (1)) :: [])) (congrArg (fun z => F0 mP 14 ls (.int (nI z) :: [])) q5_z) ?_
    refine n_if_le (tgt := 19) hx hb (by decide) dX5_setBad_14 (by decide) (fun h9 => absurd h9 (by decide)) (fun _ => ?_)
    refine lv_iconst (v := nI 0) hx hb dX5_setBad_17 (by decide) ?_
    -- path 1
    exact W.zret (v := nI (0)) (ty := .boolean) hx hb hr (nar_b (show 0 ≤ 1 by decide)) (fun t ht hW9 => ⟨⟨nI (0), g3_z, rfl, ⟨hf, (by subst eg3_z; exact Or.inl ⟨hw9, rfl, rfl⟩)⟩, (show Wd D Z N0 g3_z ad t.heap by rw [ht]; exact hW)⟩, hS.F ht⟩) hS.2.2 dX5_setBad_18
  · refine r_put M hW hS 20 0 (lvM _) rfl rfl i_X5 tyX5 tyX5_ok nmX5 20 (by decide) k_72 (fun _ h9 => h9) rfl (ty := .int) (by decide +kernel) rfl rfl (Nat.le_of_ble_eq_true rfl) rfl rfl (Or.inr (show 2 ≤ 3 by decide)) dX5_setBad_7 (fun H locs hW hS => ?_)
    obtain ⟨g7_z, eg7_z⟩ : ∃ z, z = up g 20 0 20 2 := ⟨_, rfl⟩
    rw [← eg7_z] at hW
    have hf : Fr g g7_z := by rw [eg7_z]; exact hf.up rfl
    refine lv_aload_n hx hb dX5_setBad_10 rfl (lv_at hl 0 rfl) ?_
    have b8_z : g7_z 20 0 20 ≤ 3 := hW.2.2.1.le 20 0 20 2 rfl
    refine r_get M hW 20 0 (lvM _) (v := .int (nI (g7_z 20 0 20))) rfl rfl i_X5 20 (by decide) k_72 (fun _ h9 => h9) rfl dX5_setBad_11 ?_
    have q9_z : g7_z 20 0 20 = 2 := by rw [eg7_z]; first | rfl | simp [up_at]
    refine W.eq (g2 := F0 mP 14 ls (.int (nI (2)) :: [])) (congrArg (fun z => F0 mP 14 ls (.int (nI z) :: [])) q9_z) ?_
    refine n_if_le (tgt := 19) hx hb (by decide) dX5_setBad_14 (by decide) (fun h9 => absurd h9 (by decide)) (fun _ => ?_)
    refine lv_iconst (v := nI 0) hx hb dX5_setBad_17 (by decide) ?_
    -- path 2
    exact W.zret (v := nI (0)) (ty := .boolean) hx hb hr (nar_b (show 0 ≤ 1 by decide)) (fun t ht hW9 => ⟨⟨nI (0), g7_z, rfl, ⟨hf, (by subst eg7_z; exact Or.inr (Or.inl ⟨hw9, rfl, rfl⟩))⟩, (show Wd D Z N0 g7_z ad t.heap by rw [ht]; exact hW)⟩, hS.F ht⟩) hS.2.2 dX5_setBad_18
  · refine r_put M hW hS 20 0 (lvM _) rfl rfl i_X5 tyX5 tyX5_ok nmX5 20 (by decide) k_72 (fun _ h9 => h9) rfl (ty := .int) (by decide +kernel) rfl rfl (Nat.le_of_ble_eq_true rfl) rfl rfl (Or.inr (show 0 ≤ 3 by decide)) dX5_setBad_7 (fun H locs hW hS => ?_)
    obtain ⟨g11_z, eg11_z⟩ : ∃ z, z = up g 20 0 20 0 := ⟨_, rfl⟩
    rw [← eg11_z] at hW
    have hf : Fr g g11_z := by rw [eg11_z]; exact hf.up rfl
    refine lv_aload_n hx hb dX5_setBad_10 rfl (lv_at hl 0 rfl) ?_
    have b12_z : g11_z 20 0 20 ≤ 3 := hW.2.2.1.le 20 0 20 2 rfl
    refine r_get M hW 20 0 (lvM _) (v := .int (nI (g11_z 20 0 20))) rfl rfl i_X5 20 (by decide) k_72 (fun _ h9 => h9) rfl dX5_setBad_11 ?_
    have q13_z : g11_z 20 0 20 = 0 := by rw [eg11_z]; first | rfl | simp [up_at]
    refine W.eq (g2 := F0 mP 14 ls (.int (nI (0)) :: [])) (congrArg (fun z => F0 mP 14 ls (.int (nI z) :: [])) q13_z) ?_
    refine n_if_le (tgt := 19) hx hb (by decide) dX5_setBad_14 (by decide) (fun _ => ?_) (fun h9 => absurd h9 (by decide))
    refine lv_aload_n hx hb dX5_setBad_19 rfl (lv_at hl 0 rfl) ?_
    refine r_get M hW 20 0 (lvM _) (v := .ref (ad 22 0)) rfl rfl i_X5 1 (by decide) k_13 (fun _ h9 => h9) rfl dX5_setBad_20 ?_
    refine lv_iload_n hx hb dX5_setBad_23 rfl (lv_at hl 1 rfl) ?_
    refine lv_iload_n hx hb dX5_setBad_24 rfl (lv_at hl 2 rfl) ?_
    refine k_ci (k_rS (As := [.int (nI (i)), .int (nI (s))]) (rest := [.ref (ad 22 0)]) M hW hS (c_X5_at l D Z N0 g11_z ad i s) (va_cwS 2 hts gX5_setBad_X5_at rfl rfl rfl (by decide +kernel) ⟨Nat.le_of_ble_eq_true rfl, Nat.le_of_ble_eq_true rfl⟩) rfl hl.1 rfl (Nat.le_of_ble_eq_true rfl) dX5_setBad_25 ⟨Nat.le_of_ble_eq_true rfl, Nat.le_of_ble_eq_true rfl⟩) hS (fun r16_z g15_z H locs hp hW hS => ?_)
    obtain ⟨hf1, hp⟩ := hp
    have hf : Fr g g15_z := hf.trans hf1
    obtain ⟨rfl, hg⟩ := hp
    subst hg
    refine r_zald M hW 22 0 ⟨rfl, by decide, by decide⟩ (n := 12) rfl (by omega) (by decide) dX5_setBad_28 ?_
    have b17_z : g11_z 22 0 (2 * i + s) ≤ 1 := hW.2.2.1.le 22 0 (2 * i + s) 0 rfl
    refine lv_istore (lv' := [(4, .int (nI (g11_z 22 0 (2 * i + s)))), (0, .ref (ad 20 0)), (1, .int (nI (i))), (2, .int (nI (s))), (3, .int (nI (b)))]) hx hb dX5_setBad_29 hl (by decide) rfl (fun ls hl => ?_)
    refine lv_aload_n hx hb dX5_setBad_31 rfl (lv_at hl 1 rfl) ?_
    refine r_get M hW 20 0 (lvM _) (v := .ref (ad 22 0)) rfl rfl i_X5 1 (by decide) k_13 (fun _ h9 => h9) rfl dX5_setBad_32 ?_
    refine lv_iload_n hx hb dX5_setBad_35 rfl (lv_at hl 2 rfl) ?_
    refine lv_iload_n hx hb dX5_setBad_36 rfl (lv_at hl 3 rfl) ?_
    refine k_ci (k_rS (As := [.int (nI (i)), .int (nI (s))]) (rest := [.ref (ad 22 0)]) M hW hS (c_X5_at l D Z N0 g11_z ad i s) (va_cwS 2 hts gX5_setBad_X5_at rfl rfl rfl (by decide +kernel) ⟨Nat.le_of_ble_eq_true rfl, Nat.le_of_ble_eq_true rfl⟩) rfl hl.1 rfl (Nat.le_of_ble_eq_true rfl) dX5_setBad_37 ⟨Nat.le_of_ble_eq_true rfl, Nat.le_of_ble_eq_true rfl⟩) hS (fun r19_z g18_z H locs hp hW hS => ?_)
    obtain ⟨hf1, hp⟩ := hp
    have hf : Fr g g18_z := hf.trans hf1
    obtain ⟨rfl, hg⟩ := hp
    subst hg
    refine lv_iload_n hx hb dX5_setBad_40 rfl (lv_at hl 4 rfl) ?_
    refine r_zst M hW hS 22 0 ⟨rfl, by decide, by decide⟩ (n := 12) (fun _ => rfl) (by omega) (by decide) rfl hb1 (Or.inr hb1) dX5_setBad_41 (fun H locs hW hS => ?_)
    obtain ⟨g20_z, eg20_z⟩ : ∃ z, z = up g11_z 22 0 (2 * i + s) b := ⟨_, rfl⟩
    rw [← eg20_z] at hW
    have hf : Fr g g20_z := by rw [eg20_z]; exact hf.up rfl
    refine lv_iload hx hb dX5_setBad_42 (lv_at hl 0 rfl) ?_
    -- path 3
    exact W.zret (v := nI (g11_z 22 0 (2 * i + s))) (ty := .boolean) hx hb hr (nar_b b17_z) (fun t ht hW9 => ⟨⟨nI (g11_z 22 0 (2 * i + s)), g20_z, rfl, ⟨hf, (by subst eg20_z eg11_z; exact Or.inr (Or.inr ⟨i, s, hi, rfl, hs, rfl, hw9, rfl, rfl⟩))⟩, (show Wd D Z N0 g20_z ad t.heap by rw [ht]; exact hW)⟩, hS.F ht⟩) hS.2.2 dX5_setBad_44

set_option maxHeartbeats 4000000 in
set_option maxRecDepth 100000 in
theorem c_X5_version (l : Launch) (D : va_G) (Z : Nat → Nat) (N0 : Nat) (g : T3) (ad : T2) (x y : Int32) : Met l yX5_version wsX5_version ({ frames := 3, cells := 0, slots := 0, locals := 180 } : Room) (PC D Z N0 g ad [.ref (ad 20 0), .int (x), .int (y)]) (QI D Z N0 ad (fun (r : Int32) (g1 : T3) => Fr g g1 ∧ (((¬ Ix (g 20 0 21) x ∨ ¬ Ix 2 y) ∧ r = nI 0 ∧ g1 = up g 20 0 20 1) ∨ ((∃ i s, i < g 20 0 21 ∧ x = nI i ∧ s < 2 ∧ y = nI s ∧ g 27 0 (2 * i + s) = 0) ∧ r = nI 0 ∧ g1 = up g 20 0 20 2) ∨ (∃ i s, i < g 20 0 21 ∧ x = nI i ∧ s < 2 ∧ y = nI s ∧ ¬ g 27 0 (2 * i + s) = 0 ∧ r = nI (g 28 0 (2 * i + s)) ∧ g1 = up g 20 0 20 0)))) 0 0 (AA N0) := by
  refine Met.ofW (cc := cX5_version) (maxL := 3) (ret := (some .int)) (by decide) rfl ?_
  intro pP eP sP mP args below meth cP s₁ B hmlP hvP
  obtain ⟨rfl, hW, hC⟩ := hvP
  have hx := B.exec
  have hb := B.bytes
  have hr := B.returns
  have hts := atoms_spec (ws := wsX5_version) B.pre
  have hown : sP.vm.findClass RX5 = some mP.cls := findClass_of_methodNamed B.named
  have hlocks := B.notSynchronized
  have i_X5 : ∀ w ∈ wsX50, w ∈ wsX5_version := (fun _ h => List.mem_cons_of_mem _ (List.mem_append_left _ (List.mem_append_right _ h)))
  have k_72 : Cond.fieldLink RX5 72 "StartChainModel" "thrown" "I" ∈ wsX5_version := by decide +kernel
  have k_32 : Cond.fieldLink RX5 32 "StartChainModel" "versions" "[I" ∈ wsX5_version := by decide +kernel
  have M : Mx pP mP cP cX5_version 3 sP ([.ref (ad 20 0), .int (x), .int (y)] : List Value).toArray wsX5_version RX5 D Z N0 := ⟨⟨hx, hb, hmlP, hown, hts⟩, hC⟩
  have hf : Fr g g := Fr.rf g
  have hS : va_S (AA N0) sP.heap sP.heap [] := va_S.rf
  have hl := lv_entry ([.ref (ad 20 0), .int (x), .int (y)]) (n := 3) (Nat.le_of_ble_eq_true rfl)
  rw [lg_entry_eq]
  generalize (lg_sl ([.ref (ad 20 0), .int (x), .int (y)]) ++ List.replicate (3 - (lg_sl ([.ref (ad 20 0), .int (x), .int (y)])).length) Slot.unset).toArray = ls at hl ⊢
  have hl : lv_has ls 3 [(0, .ref (ad 20 0)), (1, .int (x)), (2, .int (y))] := hl
  have hsz9 := hW.2.2.1.le 20 0 21 5 rfl
  refine lv_aload_n hx hb dX5_version_0 rfl (lv_at hl 0 rfl) ?_
  refine lv_aload_n hx hb dX5_version_1 rfl (lv_at hl 0 rfl) ?_
  refine lv_iload_n hx hb dX5_version_2 rfl (lv_at hl 1 rfl) ?_
  refine lv_iload_n hx hb dX5_version_3 rfl (lv_at hl 2 rfl) ?_
  refine k_ci (k_rV (As := [.int (x), .int (y)]) (rest := [.ref (ad 20 0)]) M hW hS (c_X5_wrongSlot l D Z N0 g ad (x) (y)) (cwV 2 hts gX5_version_X5_wrongSlot rfl rfl rfl (by decide +kernel) ⟨Nat.le_of_ble_eq_true rfl, Nat.le_of_ble_eq_true rfl⟩) (r_recv M.2 hW 20 0 (lvM _) rfl rfl) rfl hl.1 rfl (Nat.le_of_ble_eq_true rfl) dX5_version_4 ⟨Nat.le_of_ble_eq_true rfl, Nat.le_of_ble_eq_true rfl⟩) hS (fun r2_z g1_z H locs hp hW hS => ?_)
  obtain ⟨hf1, hp⟩ := hp
  have hf : Fr g g1_z := hf.trans hf1
  obtain ⟨hp, hg⟩ := hp
  subst hg
  rcases hp with ⟨rfl, hw9⟩ | ⟨rfl, hw9⟩ | ⟨rfl, i, s, hi, rfl, hs, rfl, hw9⟩
  · refine r_put M hW hS 20 0 (lvM _) rfl rfl i_X5 tyX5 tyX5_ok nmX5 20 (by decide) k_72 (fun _ h9 => h9) rfl (ty := .int) (by decide +kernel) rfl rfl (Nat.le_of_ble_eq_true rfl) rfl rfl (Or.inr (show 1 ≤ 3 by decide)) dX5_version_7 (fun H locs hW hS => ?_)
    obtain ⟨g3_z, eg3_z⟩ : ∃ z, z = up g 20 0 20 1 := ⟨_, rfl⟩
    rw [← eg3_z] at hW
    have hf : Fr g g3_z := by rw [eg3_z]; exact hf.up rfl
    refine lv_aload_n hx hb dX5_version_10 rfl (lv_at hl 0 rfl) ?_
    have b4_z : g3_z 20 0 20 ≤ 3 := hW.2.2.1.le 20 0 20 2 rfl
    refine r_get M hW 20 0 (lvM _) (v := .int (nI (g3_z 20 0 20))) rfl rfl i_X5 20 (by decide) k_72 (fun _ h9 => h9) rfl dX5_version_11 ?_
    have q5_z : g3_z 20 0 20 = 1 := by rw [eg3_z]; first | rfl | simp [up_at]
    refine W.eq (g2 := F0 mP 14 ls (.int (nI (1)) :: [])) (congrArg (fun z => F0 mP 14 ls (.int (nI z) :: [])) q5_z) ?_
    refine n_if_le (tgt := 21) hx hb (by decide) dX5_version_14 (by decide) (fun h9 => absurd h9 (by decide)) (fun _ => ?_)
    refine lv_iconst (v := nI 0) hx hb dX5_version_17 (by decide) ?_
    refine lv_goto (tgt := 31) hx hb dX5_version_18 (by decide) ?_
    -- path 1
    exact W.iret (v := nI (0)) hx hb hr (fun t ht hW9 => ⟨⟨nI (0), g3_z, rfl, ⟨hf, (by subst eg3_z; exact Or.inl ⟨hw9, rfl, rfl⟩)⟩, (show Wd D Z N0 g3_z ad t.heap by rw [ht]; exact hW)⟩, hS.F ht⟩) hS.2.2 dX5_version_31
  · refine r_put M hW hS 20 0 (lvM _) rfl rfl i_X5 tyX5 tyX5_ok nmX5 20 (by decide) k_72 (fun _ h9 => h9) rfl (ty := .int) (by decide +kernel) rfl rfl (Nat.le_of_ble_eq_true rfl) rfl rfl (Or.inr (show 2 ≤ 3 by decide)) dX5_version_7 (fun H locs hW hS => ?_)
    obtain ⟨g7_z, eg7_z⟩ : ∃ z, z = up g 20 0 20 2 := ⟨_, rfl⟩
    rw [← eg7_z] at hW
    have hf : Fr g g7_z := by rw [eg7_z]; exact hf.up rfl
    refine lv_aload_n hx hb dX5_version_10 rfl (lv_at hl 0 rfl) ?_
    have b8_z : g7_z 20 0 20 ≤ 3 := hW.2.2.1.le 20 0 20 2 rfl
    refine r_get M hW 20 0 (lvM _) (v := .int (nI (g7_z 20 0 20))) rfl rfl i_X5 20 (by decide) k_72 (fun _ h9 => h9) rfl dX5_version_11 ?_
    have q9_z : g7_z 20 0 20 = 2 := by rw [eg7_z]; first | rfl | simp [up_at]
    refine W.eq (g2 := F0 mP 14 ls (.int (nI (2)) :: [])) (congrArg (fun z => F0 mP 14 ls (.int (nI z) :: [])) q9_z) ?_
    refine n_if_le (tgt := 21) hx hb (by decide) dX5_version_14 (by decide) (fun h9 => absurd h9 (by decide)) (fun _ => ?_)
    refine lv_iconst (v := nI 0) hx hb dX5_version_17 (by decide) ?_
    refine lv_goto (tgt := 31) hx hb dX5_version_18 (by decide) ?_
    -- path 2
    exact W.iret (v := nI (0)) hx hb hr (fun t ht hW9 => ⟨⟨nI (0), g7_z, rfl, ⟨hf, (by subst eg7_z; exact Or.inr (Or.inl ⟨hw9, rfl, rfl⟩))⟩, (show Wd D Z N0 g7_z ad t.heap by rw [ht]; exact hW)⟩, hS.F ht⟩) hS.2.2 dX5_version_31
  · refine r_put M hW hS 20 0 (lvM _) rfl rfl i_X5 tyX5 tyX5_ok nmX5 20 (by decide) k_72 (fun _ h9 => h9) rfl (ty := .int) (by decide +kernel) rfl rfl (Nat.le_of_ble_eq_true rfl) rfl rfl (Or.inr (show 0 ≤ 3 by decide)) dX5_version_7 (fun H locs hW hS => ?_)
    obtain ⟨g11_z, eg11_z⟩ : ∃ z, z = up g 20 0 20 0 := ⟨_, rfl⟩
    rw [← eg11_z] at hW
    have hf : Fr g g11_z := by rw [eg11_z]; exact hf.up rfl
    refine lv_aload_n hx hb dX5_version_10 rfl (lv_at hl 0 rfl) ?_
    have b12_z : g11_z 20 0 20 ≤ 3 := hW.2.2.1.le 20 0 20 2 rfl
    refine r_get M hW 20 0 (lvM _) (v := .int (nI (g11_z 20 0 20))) rfl rfl i_X5 20 (by decide) k_72 (fun _ h9 => h9) rfl dX5_version_11 ?_
    have q13_z : g11_z 20 0 20 = 0 := by rw [eg11_z]; first | rfl | simp [up_at]
    refine W.eq (g2 := F0 mP 14 ls (.int (nI (0)) :: [])) (congrArg (fun z => F0 mP 14 ls (.int (nI z) :: [])) q13_z) ?_
    refine n_if_le (tgt := 21) hx hb (by decide) dX5_version_14 (by decide) (fun _ => ?_) (fun h9 => absurd h9 (by decide))
    refine lv_aload_n hx hb dX5_version_21 rfl (lv_at hl 0 rfl) ?_
    refine r_get M hW 20 0 (lvM _) (v := .ref (ad 28 0)) rfl rfl i_X5 7 (by decide) k_32 (fun _ h9 => h9) rfl dX5_version_22 ?_
    refine lv_iload_n hx hb dX5_version_25 rfl (lv_at hl 1 rfl) ?_
    refine lv_iload_n hx hb dX5_version_26 rfl (lv_at hl 2 rfl) ?_
    refine k_ci (k_rS (As := [.int (nI (i)), .int (nI (s))]) (rest := [.ref (ad 28 0)]) M hW hS (c_X5_at l D Z N0 g11_z ad i s) (va_cwS 2 hts gX5_version_X5_at rfl rfl rfl (by decide +kernel) ⟨Nat.le_of_ble_eq_true rfl, Nat.le_of_ble_eq_true rfl⟩) rfl hl.1 rfl (Nat.le_of_ble_eq_true rfl) dX5_version_27 ⟨Nat.le_of_ble_eq_true rfl, Nat.le_of_ble_eq_true rfl⟩) hS (fun r16_z g15_z H locs hp hW hS => ?_)
    obtain ⟨hf1, hp⟩ := hp
    have hf : Fr g g15_z := hf.trans hf1
    obtain ⟨rfl, hg⟩ := hp
    subst hg
    refine r_iald M hW 28 0 ⟨rfl, by decide, by decide⟩ (n := 12) rfl (by omega) (by decide) dX5_version_30 ?_
    have b17_z : g11_z 28 0 (2 * i + s) ≤ 99 := hW.2.2.1.le 28 0 (2 * i + s) 98 rfl
    -- path 3
    exact W.iret (v := nI (g11_z 28 0 (2 * i + s))) hx hb hr (fun t ht hW9 => ⟨⟨nI (g11_z 28 0 (2 * i + s)), g11_z, rfl, ⟨hf, (by subst eg11_z; exact Or.inr (Or.inr ⟨i, s, hi, rfl, hs, rfl, hw9, rfl, rfl⟩))⟩, (show Wd D Z N0 g11_z ad t.heap by rw [ht]; exact hW)⟩, hS.F ht⟩) hS.2.2 dX5_version_31

set_option maxHeartbeats 4000000 in
set_option maxRecDepth 100000 in
theorem c_X5_active (l : Launch) (D : va_G) (Z : Nat → Nat) (N0 : Nat) (g : T3) (ad : T2) (x : Int32) : Met l yX5_active wsX5_active ({ frames := 2, cells := 0, slots := 0, locals := 140 } : Room) (PC D Z N0 g ad [.ref (ad 20 0), .int (x)]) (QI D Z N0 ad (fun (r : Int32) (g1 : T3) => Fr g g1 ∧ ((¬ Ix (g 20 0 21) x ∧ r = nI 0 ∧ g1 = up g 20 0 20 1) ∨ (∃ i, i < g 20 0 21 ∧ x = nI i ∧ r = nI (g 25 0 i) ∧ g1 = up g 20 0 20 0)))) 0 0 (AA N0) := by
  refine Met.ofW (cc := cX5_active) (maxL := 2) (ret := (some .int)) (by decide) rfl ?_
  intro pP eP sP mP args below meth cP s₁ B hmlP hvP
  obtain ⟨rfl, hW, hC⟩ := hvP
  have hx := B.exec
  have hb := B.bytes
  have hr := B.returns
  have hts := atoms_spec (ws := wsX5_active) B.pre
  have hown : sP.vm.findClass RX5 = some mP.cls := findClass_of_methodNamed B.named
  have hlocks := B.notSynchronized
  have i_X5 : ∀ w ∈ wsX50, w ∈ wsX5_active := (fun _ h => List.mem_cons_of_mem _ (List.mem_append_left _ (List.mem_append_right _ h)))
  have k_23 : Cond.fieldLink RX5 23 "StartChainModel" "actives" "[I" ∈ wsX5_active := by decide +kernel
  have M : Mx pP mP cP cX5_active 2 sP ([.ref (ad 20 0), .int (x)] : List Value).toArray wsX5_active RX5 D Z N0 := ⟨⟨hx, hb, hmlP, hown, hts⟩, hC⟩
  have hf : Fr g g := Fr.rf g
  have hS : va_S (AA N0) sP.heap sP.heap [] := va_S.rf
  have hl := lv_entry ([.ref (ad 20 0), .int (x)]) (n := 2) (Nat.le_of_ble_eq_true rfl)
  rw [lg_entry_eq]
  generalize (lg_sl ([.ref (ad 20 0), .int (x)]) ++ List.replicate (2 - (lg_sl ([.ref (ad 20 0), .int (x)])).length) Slot.unset).toArray = ls at hl ⊢
  have hl : lv_has ls 2 [(0, .ref (ad 20 0)), (1, .int (x))] := hl
  have hsz9 := hW.2.2.1.le 20 0 21 5 rfl
  refine lv_aload_n hx hb dX5_active_0 rfl (lv_at hl 0 rfl) ?_
  refine lv_aload_n hx hb dX5_active_1 rfl (lv_at hl 0 rfl) ?_
  refine lv_iload_n hx hb dX5_active_2 rfl (lv_at hl 1 rfl) ?_
  refine k_ci (k_rV (As := [.int (x)]) (rest := [.ref (ad 20 0)]) M hW hS (c_X5_isStage l D Z N0 g ad (x)) (cwV 1 hts gX5_active_X5_isStage rfl rfl rfl (by decide +kernel) ⟨Nat.le_of_ble_eq_true rfl, Nat.le_of_ble_eq_true rfl⟩) (r_recv M.2 hW 20 0 (lvM _) rfl rfl) rfl hl.1 rfl (Nat.le_of_ble_eq_true rfl) dX5_active_3 ⟨Nat.le_of_ble_eq_true rfl, Nat.le_of_ble_eq_true rfl⟩) hS (fun r2_z g1_z H locs hp hW hS => ?_)
  obtain ⟨hf1, hp⟩ := hp
  have hf : Fr g g1_z := hf.trans hf1
  obtain ⟨hp, hg⟩ := hp
  subst hg
  rcases hp with ⟨rfl, c3_z⟩ | ⟨rfl, c3_z⟩
  · obtain ⟨i, hi, rfl⟩ := c3_z
    refine k_ci (k_rV (As := [.int (nI (1))]) (rest := []) M hW hS (c_X5_checked l D Z N0 g ad 1 (show 1 ≤ 1 by decide)) (cwV 1 hts gX5_active_X5_checked rfl rfl rfl (by decide +kernel) ⟨Nat.le_of_ble_eq_true rfl, Nat.le_of_ble_eq_true rfl⟩) (r_recv M.2 hW 20 0 (lvM _) rfl rfl) rfl hl.1 rfl (Nat.le_of_ble_eq_true rfl) dX5_active_6 ⟨Nat.le_of_ble_eq_true rfl, Nat.le_of_ble_eq_true rfl⟩) hS (fun r5_z g4_z H locs hp hW hS => ?_)
    obtain ⟨hf1, hp⟩ := hp
    have hf : Fr g g4_z := hf.trans hf1
    obtain ⟨hr9, eg4_z⟩ := hp
    have hr9 : r5_z = nI 0 := hr9
    subst hr9
    have eg4_z : g4_z = up g 20 0 20 0 := eg4_z
    refine n_if_le (tgt := 16) hx hb (by decide) dX5_active_9 (by decide) (fun _ => ?_) (fun h9 => absurd h9 (by decide))
    refine lv_aload_n hx hb dX5_active_16 rfl (lv_at hl 0 rfl) ?_
    refine r_get M hW 20 0 (lvM _) (v := .ref (ad 25 0)) rfl rfl i_X5 4 (by decide) k_23 (fun _ h9 => h9) rfl dX5_active_17 ?_
    refine lv_iload_n hx hb dX5_active_20 rfl (lv_at hl 1 rfl) ?_
    refine r_iald M hW 25 0 ⟨rfl, by decide, by decide⟩ (n := 6) rfl (by omega) (by decide) dX5_active_21 ?_
    have b7_z : g4_z 25 0 i ≤ 1 := hW.2.2.1.le 25 0 i 0 rfl
    -- path 1
    exact W.iret (v := nI (g4_z 25 0 i)) hx hb hr (fun t ht hW9 => ⟨⟨nI (g4_z 25 0 i), g4_z, rfl, ⟨hf, (by subst eg4_z; exact Or.inr ⟨i, hi, rfl, rfl, rfl⟩)⟩, (show Wd D Z N0 g4_z ad t.heap by rw [ht]; exact hW)⟩, hS.F ht⟩) hS.2.2 dX5_active_22
  · refine k_ci (k_rV (As := [.int (nI (0))]) (rest := []) M hW hS (c_X5_checked l D Z N0 g ad 0 (show 0 ≤ 1 by decide)) (cwV 1 hts gX5_active_X5_checked rfl rfl rfl (by decide +kernel) ⟨Nat.le_of_ble_eq_true rfl, Nat.le_of_ble_eq_true rfl⟩) (r_recv M.2 hW 20 0 (lvM _) rfl rfl) rfl hl.1 rfl (Nat.le_of_ble_eq_true rfl) dX5_active_6 ⟨Nat.le_of_ble_eq_true rfl, Nat.le_of_ble_eq_true rfl⟩) hS (fun r9_z g8_z H locs hp hW hS => ?_)
    obtain ⟨hf1, hp⟩ := hp
    have hf : Fr g g8_z := hf.trans hf1
    obtain ⟨hr9, eg8_z⟩ := hp
    have hr9 : r9_z = nI 1 := hr9
    subst hr9
    have eg8_z : g8_z = up g 20 0 20 1 := eg8_z
    refine n_if_le (tgt := 16) hx hb (by decide) dX5_active_9 (by decide) (fun h9 => absurd h9 (by decide)) (fun _ => ?_)
    refine lv_iconst (v := nI 0) hx hb dX5_active_12 (by decide) ?_
    refine lv_goto (tgt := 22) hx hb dX5_active_13 (by decide) ?_
    -- path 2
    exact W.iret (v := nI (0)) hx hb hr (fun t ht hW9 => ⟨⟨nI (0), g8_z, rfl, ⟨hf, (by subst eg8_z; exact Or.inl ⟨c3_z, rfl, rfl⟩)⟩, (show Wd D Z N0 g8_z ad t.heap by rw [ht]; exact hW)⟩, hS.F ht⟩) hS.2.2 dX5_active_22

set_option maxHeartbeats 4000000 in
set_option maxRecDepth 100000 in
theorem c_X5_counter (l : Launch) (D : va_G) (Z : Nat → Nat) (N0 : Nat) (g : T3) (ad : T2) (x : Int32) : Met l yX5_counter wsX5_counter ({ frames := 2, cells := 0, slots := 0, locals := 140 } : Room) (PC D Z N0 g ad [.ref (ad 20 0), .int (x)]) (QI D Z N0 ad (fun (r : Int32) (g1 : T3) => Fr g g1 ∧ ((¬ Ix (g 20 0 21) x ∧ r = nI 0 ∧ g1 = up g 20 0 20 1) ∨ (∃ i, i < g 20 0 21 ∧ x = nI i ∧ r = nI (g 26 0 i) ∧ g1 = up g 20 0 20 0)))) 0 0 (AA N0) := by
  refine Met.ofW (cc := cX5_counter) (maxL := 2) (ret := (some .int)) (by decide) rfl ?_
  intro pP eP sP mP args below meth cP s₁ B hmlP hvP
  obtain ⟨rfl, hW, hC⟩ := hvP
  have hx := B.exec
  have hb := B.bytes
  have hr := B.returns
  have hts := atoms_spec (ws := wsX5_counter) B.pre
  have hown : sP.vm.findClass RX5 = some mP.cls := findClass_of_methodNamed B.named
  have hlocks := B.notSynchronized
  have i_X5 : ∀ w ∈ wsX50, w ∈ wsX5_counter := (fun _ h => List.mem_cons_of_mem _ (List.mem_append_left _ (List.mem_append_right _ h)))
  have k_26 : Cond.fieldLink RX5 26 "StartChainModel" "counters" "[I" ∈ wsX5_counter := by decide +kernel
  have M : Mx pP mP cP cX5_counter 2 sP ([.ref (ad 20 0), .int (x)] : List Value).toArray wsX5_counter RX5 D Z N0 := ⟨⟨hx, hb, hmlP, hown, hts⟩, hC⟩
  have hf : Fr g g := Fr.rf g
  have hS : va_S (AA N0) sP.heap sP.heap [] := va_S.rf
  have hl := lv_entry ([.ref (ad 20 0), .int (x)]) (n := 2) (Nat.le_of_ble_eq_true rfl)
  rw [lg_entry_eq]
  generalize (lg_sl ([.ref (ad 20 0), .int (x)]) ++ List.replicate (2 - (lg_sl ([.ref (ad 20 0), .int (x)])).length) Slot.unset).toArray = ls at hl ⊢
  have hl : lv_has ls 2 [(0, .ref (ad 20 0)), (1, .int (x))] := hl
  have hsz9 := hW.2.2.1.le 20 0 21 5 rfl
  refine lv_aload_n hx hb dX5_counter_0 rfl (lv_at hl 0 rfl) ?_
  refine lv_aload_n hx hb dX5_counter_1 rfl (lv_at hl 0 rfl) ?_
  refine lv_iload_n hx hb dX5_counter_2 rfl (lv_at hl 1 rfl) ?_
  refine k_ci (k_rV (As := [.int (x)]) (rest := [.ref (ad 20 0)]) M hW hS (c_X5_isStage l D Z N0 g ad (x)) (cwV 1 hts gX5_counter_X5_isStage rfl rfl rfl (by decide +kernel) ⟨Nat.le_of_ble_eq_true rfl, Nat.le_of_ble_eq_true rfl⟩) (r_recv M.2 hW 20 0 (lvM _) rfl rfl) rfl hl.1 rfl (Nat.le_of_ble_eq_true rfl) dX5_counter_3 ⟨Nat.le_of_ble_eq_true rfl, Nat.le_of_ble_eq_true rfl⟩) hS (fun r2_z g1_z H locs hp hW hS => ?_)
  obtain ⟨hf1, hp⟩ := hp
  have hf : Fr g g1_z := hf.trans hf1
  obtain ⟨hp, hg⟩ := hp
  subst hg
  rcases hp with ⟨rfl, c3_z⟩ | ⟨rfl, c3_z⟩
  · obtain ⟨i, hi, rfl⟩ := c3_z
    refine k_ci (k_rV (As := [.int (nI (1))]) (rest := []) M hW hS (c_X5_checked l D Z N0 g ad 1 (show 1 ≤ 1 by decide)) (cwV 1 hts gX5_counter_X5_checked rfl rfl rfl (by decide +kernel) ⟨Nat.le_of_ble_eq_true rfl, Nat.le_of_ble_eq_true rfl⟩) (r_recv M.2 hW 20 0 (lvM _) rfl rfl) rfl hl.1 rfl (Nat.le_of_ble_eq_true rfl) dX5_counter_6 ⟨Nat.le_of_ble_eq_true rfl, Nat.le_of_ble_eq_true rfl⟩) hS (fun r5_z g4_z H locs hp hW hS => ?_)
    obtain ⟨hf1, hp⟩ := hp
    have hf : Fr g g4_z := hf.trans hf1
    obtain ⟨hr9, eg4_z⟩ := hp
    have hr9 : r5_z = nI 0 := hr9
    subst hr9
    have eg4_z : g4_z = up g 20 0 20 0 := eg4_z
    refine n_if_le (tgt := 16) hx hb (by decide) dX5_counter_9 (by decide) (fun _ => ?_) (fun h9 => absurd h9 (by decide))
    refine lv_aload_n hx hb dX5_counter_16 rfl (lv_at hl 0 rfl) ?_
    refine r_get M hW 20 0 (lvM _) (v := .ref (ad 26 0)) rfl rfl i_X5 5 (by decide) k_26 (fun _ h9 => h9) rfl dX5_counter_17 ?_
    refine lv_iload_n hx hb dX5_counter_20 rfl (lv_at hl 1 rfl) ?_
    refine r_iald M hW 26 0 ⟨rfl, by decide, by decide⟩ (n := 6) rfl (by omega) (by decide) dX5_counter_21 ?_
    have b7_z : g4_z 26 0 i ≤ 99 := hW.2.2.1.le 26 0 i 98 rfl
    -- path 1
    exact W.iret (v := nI (g4_z 26 0 i)) hx hb hr (fun t ht hW9 => ⟨⟨nI (g4_z 26 0 i), g4_z, rfl, ⟨hf, (by subst eg4_z; exact Or.inr ⟨i, hi, rfl, rfl, rfl⟩)⟩, (show Wd D Z N0 g4_z ad t.heap by rw [ht]; exact hW)⟩, hS.F ht⟩) hS.2.2 dX5_counter_22
  · refine k_ci (k_rV (As := [.int (nI (0))]) (rest := []) M hW hS (c_X5_checked l D Z N0 g ad 0 (show 0 ≤ 1 by decide)) (cwV 1 hts gX5_counter_X5_checked rfl rfl rfl (by decide +kernel) ⟨Nat.le_of_ble_eq_true rfl, Nat.le_of_ble_eq_true rfl⟩) (r_recv M.2 hW 20 0 (lvM _) rfl rfl) rfl hl.1 rfl (Nat.le_of_ble_eq_true rfl) dX5_counter_6 ⟨Nat.le_of_ble_eq_true rfl, Nat.le_of_ble_eq_true rfl⟩) hS (fun r9_z g8_z H locs hp hW hS => ?_)
    obtain ⟨hf1, hp⟩ := hp
    have hf : Fr g g8_z := hf.trans hf1
    obtain ⟨hr9, eg8_z⟩ := hp
    have hr9 : r9_z = nI 1 := hr9
    subst hr9
    have eg8_z : g8_z = up g 20 0 20 1 := eg8_z
    refine n_if_le (tgt := 16) hx hb (by decide) dX5_counter_9 (by decide) (fun h9 => absurd h9 (by decide)) (fun _ => ?_)
    refine lv_iconst (v := nI 0) hx hb dX5_counter_12 (by decide) ?_
    refine lv_goto (tgt := 22) hx hb dX5_counter_13 (by decide) ?_
    -- path 2
    exact W.iret (v := nI (0)) hx hb hr (fun t ht hW9 => ⟨⟨nI (0), g8_z, rfl, ⟨hf, (by subst eg8_z; exact Or.inl ⟨c3_z, rfl, rfl⟩)⟩, (show Wd D Z N0 g8_z ad t.heap by rw [ht]; exact hW)⟩, hS.F ht⟩) hS.2.2 dX5_counter_22

set_option maxHeartbeats 4000000 in
set_option maxRecDepth 100000 in
theorem c_X5_reasonOf (l : Launch) (D : va_G) (Z : Nat → Nat) (N0 : Nat) (g : T3) (ad : T2) (i s : Nat) (hi6 : i < 6) (hs2 : s < 2) : Met l yX5_reasonOf wsX5_reasonOf ({ frames := 1, cells := 0, slots := 0, locals := 100 } : Room) (PC D Z N0 g ad [.ref (ad 20 0), .int (nI (i)), .int (nI (s))]) (QI D Z N0 ad (fun (r : Int32) (g1 : T3) => Fr g g1 ∧ (r = nI (mRe g i s) ∧ g = g1))) 0 0 (AA N0) := by
  refine Met.ofW (cc := cX5_reasonOf) (maxL := 4) (ret := (some .char)) (by decide) rfl ?_
  intro pP eP sP mP args below meth cP s₁ B hmlP hvP
  obtain ⟨rfl, hW, hC⟩ := hvP
  have hx := B.exec
  have hb := B.bytes
  have hr := B.returns
  have hts := atoms_spec (ws := wsX5_reasonOf) B.pre
  have hown : sP.vm.findClass RX5 = some mP.cls := findClass_of_methodNamed B.named
  have hlocks := B.notSynchronized
  have i_X5 : ∀ w ∈ wsX50, w ∈ wsX5_reasonOf := (fun _ h => List.mem_cons_of_mem _ (List.mem_append_left _ (List.mem_append_right _ h)))
  have k_29 : Cond.fieldLink RX5 29 "StartChainModel" "keys" "[I" ∈ wsX5_reasonOf := by decide +kernel
  have k_7 : Cond.fieldLink RX5 7 "StartChainModel" "areTrusted" "[Z" ∈ wsX5_reasonOf := by decide +kernel
  have k_32 : Cond.fieldLink RX5 32 "StartChainModel" "versions" "[I" ∈ wsX5_reasonOf := by decide +kernel
  have k_26 : Cond.fieldLink RX5 26 "StartChainModel" "counters" "[I" ∈ wsX5_reasonOf := by decide +kernel
  have k_13 : Cond.fieldLink RX5 13 "StartChainModel" "areBad" "[Z" ∈ wsX5_reasonOf := by decide +kernel
  have M : Mx pP mP cP cX5_reasonOf 4 sP ([.ref (ad 20 0), .int (nI (i)), .int (nI (s))] : List Value).toArray wsX5_reasonOf RX5 D Z N0 := ⟨⟨hx, hb, hmlP, hown, hts⟩, hC⟩
  have hf : Fr g g := Fr.rf g
  have hS : va_S (AA N0) sP.heap sP.heap [] := va_S.rf
  have hl := lv_entry ([.ref (ad 20 0), .int (nI (i)), .int (nI (s))]) (n := 4) (Nat.le_of_ble_eq_true rfl)
  rw [lg_entry_eq]
  generalize (lg_sl ([.ref (ad 20 0), .int (nI (i)), .int (nI (s))]) ++ List.replicate (4 - (lg_sl ([.ref (ad 20 0), .int (nI (i)), .int (nI (s))])).length) Slot.unset).toArray = ls at hl ⊢
  have hl : lv_has ls 4 [(0, .ref (ad 20 0)), (1, .int (nI (i))), (2, .int (nI (s)))] := hl
  refine lv_iload_n hx hb dX5_reasonOf_0 rfl (lv_at hl 1 rfl) ?_
  refine lv_iload_n hx hb dX5_reasonOf_1 rfl (lv_at hl 2 rfl) ?_
  refine k_ci (k_rS (As := [.int (nI (i)), .int (nI (s))]) (rest := []) M hW hS (c_X5_at l D Z N0 g ad i s) (va_cwS 2 hts gX5_reasonOf_X5_at rfl rfl rfl (by decide +kernel) ⟨Nat.le_of_ble_eq_true rfl, Nat.le_of_ble_eq_true rfl⟩) rfl hl.1 rfl (Nat.le_of_ble_eq_true rfl) dX5_reasonOf_2 ⟨Nat.le_of_ble_eq_true rfl, Nat.le_of_ble_eq_true rfl⟩) hS (fun r2_z g1_z H locs hp hW hS => ?_)
  obtain ⟨hf1, hp⟩ := hp
  have hf : Fr g g1_z := hf.trans hf1
  obtain ⟨rfl, hg⟩ := hp
  subst hg
  refine lv_istore_n (lv' := [(3, .int (nI (2 * i + s))), (0, .ref (ad 20 0)), (1, .int (nI (i))), (2, .int (nI (s)))]) hx hb dX5_reasonOf_5 rfl hl (by decide) rfl (fun ls hl => ?_)
  refine lv_aload_n hx hb dX5_reasonOf_6 rfl (lv_at hl 1 rfl) ?_
  refine r_get M hW 20 0 (lvM _) (v := .ref (ad 27 0)) rfl rfl i_X5 6 (by decide) k_29 (fun _ h9 => h9) rfl dX5_reasonOf_7 ?_
  refine lv_iload_n hx hb dX5_reasonOf_10 rfl (lv_at hl 0 rfl) ?_
  refine r_iald M hW 27 0 ⟨rfl, by decide, by decide⟩ (n := 12) rfl (by omega) (by decide) dX5_reasonOf_11 ?_
  have b3_z : g 27 0 (2 * i + s) ≤ 9 := hW.2.2.1.le 27 0 (2 * i + s) 8 rfl
  refine n_if_ne (tgt := 18) hx hb (Nat.lt_of_le_of_lt b3_z (by decide)) dX5_reasonOf_12 (by decide) (fun c4_z => ?_) (fun c4_z => ?_)
  · refine lv_aload_n hx hb dX5_reasonOf_18 rfl (lv_at hl 1 rfl) ?_
    refine r_get M hW 20 0 (lvM _) (v := .ref (ad 21 0)) rfl rfl i_X5 0 (by decide) k_7 (fun _ h9 => h9) rfl dX5_reasonOf_19 ?_
    refine lv_aload_n hx hb dX5_reasonOf_22 rfl (lv_at hl 1 rfl) ?_
    refine r_get M hW 20 0 (lvM _) (v := .ref (ad 27 0)) rfl rfl i_X5 6 (by decide) k_29 (fun _ h9 => h9) rfl dX5_reasonOf_23 ?_
    refine lv_iload_n hx hb dX5_reasonOf_26 rfl (lv_at hl 0 rfl) ?_
    refine r_iald M hW 27 0 ⟨rfl, by decide, by decide⟩ (n := 12) rfl (by omega) (by decide) dX5_reasonOf_27 ?_
    have b5_z : g 27 0 (2 * i + s) ≤ 9 := hW.2.2.1.le 27 0 (2 * i + s) 8 rfl
    refine r_zald M hW 21 0 ⟨rfl, by decide, by decide⟩ (n := 10) rfl (Nat.lt_of_le_of_lt b5_z (by decide)) (by decide) dX5_reasonOf_28 ?_
    have b6_z : g 21 0 (g 27 0 (2 * i + s)) ≤ 1 := hW.2.2.1.le 21 0 (g 27 0 (2 * i + s)) 0 rfl
    refine n_if_ne (tgt := 35) hx hb (Nat.lt_of_le_of_lt b6_z (by decide)) dX5_reasonOf_29 (by decide) (fun c7_z => ?_) (fun c7_z => ?_)
    · refine lv_aload_n hx hb dX5_reasonOf_35 rfl (lv_at hl 1 rfl) ?_
      refine r_get M hW 20 0 (lvM _) (v := .ref (ad 28 0)) rfl rfl i_X5 7 (by decide) k_32 (fun _ h9 => h9) rfl dX5_reasonOf_36 ?_
      refine lv_iload_n hx hb dX5_reasonOf_39 rfl (lv_at hl 0 rfl) ?_
      refine r_iald M hW 28 0 ⟨rfl, by decide, by decide⟩ (n := 12) rfl (by omega) (by decide) dX5_reasonOf_40 ?_
      have b8_z : g 28 0 (2 * i + s) ≤ 99 := hW.2.2.1.le 28 0 (2 * i + s) 98 rfl
      refine lv_aload_n hx hb dX5_reasonOf_41 rfl (lv_at hl 1 rfl) ?_
      refine r_get M hW 20 0 (lvM _) (v := .ref (ad 26 0)) rfl rfl i_X5 5 (by decide) k_26 (fun _ h9 => h9) rfl dX5_reasonOf_42 ?_
      refine lv_iload_n hx hb dX5_reasonOf_45 rfl (lv_at hl 2 rfl) ?_
      refine r_iald M hW 26 0 ⟨rfl, by decide, by decide⟩ (n := 6) rfl (by omega) (by decide) dX5_reasonOf_46 ?_
      have b9_z : g 26 0 i ≤ 99 := hW.2.2.1.le 26 0 i 98 rfl
      refine n_icmp_ge (tgt := 53) hx hb (Nat.lt_of_le_of_lt b8_z (by decide)) (Nat.lt_of_le_of_lt b9_z (by decide)) dX5_reasonOf_47 (by decide) (fun c10_z => ?_) (fun c10_z => ?_)
      · refine lv_aload_n hx hb dX5_reasonOf_53 rfl (lv_at hl 1 rfl) ?_
        refine r_get M hW 20 0 (lvM _) (v := .ref (ad 22 0)) rfl rfl i_X5 1 (by decide) k_13 (fun _ h9 => h9) rfl dX5_reasonOf_54 ?_
        refine lv_iload_n hx hb dX5_reasonOf_57 rfl (lv_at hl 0 rfl) ?_
        refine r_zald M hW 22 0 ⟨rfl, by decide, by decide⟩ (n := 12) rfl (by omega) (by decide) dX5_reasonOf_58 ?_
        have b11_z : g 22 0 (2 * i + s) ≤ 1 := hW.2.2.1.le 22 0 (2 * i + s) 0 rfl
        refine n_if_eq (tgt := 67) hx hb (Nat.lt_of_le_of_lt b11_z (by decide)) dX5_reasonOf_59 (by decide) (fun c12_z => ?_) (fun c12_z => ?_)
        · refine lv_bipush (v := nI 45) hx hb dX5_reasonOf_67 (by decide) ?_
          -- path 1
          exact W.zret (v := nI (45)) (ty := .char) hx hb hr (by decide) (fun t ht hW9 => ⟨⟨nI (45), g, rfl, ⟨hf, ⟨congrArg nI (by unfold mRe; rw [if_neg c4_z, if_neg c7_z, if_pos c10_z, if_pos c12_z]), rfl⟩⟩, (show Wd D Z N0 g ad t.heap by rw [ht]; exact hW)⟩, hS.F ht⟩) hS.2.2 dX5_reasonOf_69
        · refine lv_bipush (v := nI 98) hx hb dX5_reasonOf_62 (by decide) ?_
          refine lv_goto (tgt := 69) hx hb dX5_reasonOf_64 (by decide) ?_
          -- path 2
          exact W.zret (v := nI (98)) (ty := .char) hx hb hr (by decide) (fun t ht hW9 => ⟨⟨nI (98), g, rfl, ⟨hf, ⟨congrArg nI (by unfold mRe; rw [if_neg c4_z, if_neg c7_z, if_pos c10_z, if_neg c12_z]), rfl⟩⟩, (show Wd D Z N0 g ad t.heap by rw [ht]; exact hW)⟩, hS.F ht⟩) hS.2.2 dX5_reasonOf_69
      · refine lv_bipush (v := nI 118) hx hb dX5_reasonOf_50 (by decide) ?_
        -- path 3
        exact W.zret (v := nI (118)) (ty := .char) hx hb hr (by decide) (fun t ht hW9 => ⟨⟨nI (118), g, rfl, ⟨hf, ⟨congrArg nI (by unfold mRe; rw [if_neg c4_z, if_neg c7_z, if_neg c10_z]), rfl⟩⟩, (show Wd D Z N0 g ad t.heap by rw [ht]; exact hW)⟩, hS.F ht⟩) hS.2.2 dX5_reasonOf_52
    · refine lv_bipush (v := nI 107) hx hb dX5_reasonOf_32 (by decide) ?_
      -- path 4
      exact W.zret (v := nI (107)) (ty := .char) hx hb hr (by decide) (fun t ht hW9 => ⟨⟨nI (107), g, rfl, ⟨hf, ⟨congrArg nI (by unfold mRe; rw [if_neg c4_z, if_pos c7_z]), rfl⟩⟩, (show Wd D Z N0 g ad t.heap by rw [ht]; exact hW)⟩, hS.F ht⟩) hS.2.2 dX5_reasonOf_34
  · refine lv_bipush (v := nI 101) hx hb dX5_reasonOf_15 (by decide) ?_
    -- path 5
    exact W.zret (v := nI (101)) (ty := .char) hx hb hr (by decide) (fun t ht hW9 => ⟨⟨nI (101), g, rfl, ⟨hf, ⟨congrArg nI (by unfold mRe; rw [if_pos c4_z]), rfl⟩⟩, (show Wd D Z N0 g ad t.heap by rw [ht]; exact hW)⟩, hS.F ht⟩) hS.2.2 dX5_reasonOf_17

set_option maxHeartbeats 4000000 in
set_option maxRecDepth 100000 in
theorem c_X5_reason (l : Launch) (D : va_G) (Z : Nat → Nat) (N0 : Nat) (g : T3) (ad : T2) (x y : Int32) : Met l yX5_reason wsX5_reason ({ frames := 2, cells := 0, slots := 0, locals := 140 } : Room) (PC D Z N0 g ad [.ref (ad 20 0), .int (x), .int (y)]) (QI D Z N0 ad (fun (r : Int32) (g1 : T3) => Fr g g1 ∧ (((¬ Ix (g 20 0 21) x ∨ ¬ Ix 2 y) ∧ r = nI 32 ∧ g1 = up g 20 0 20 1) ∨ (∃ i s, i < g 20 0 21 ∧ x = nI i ∧ s < 2 ∧ y = nI s ∧ r = nI (mRe (up g 20 0 20 0) i s) ∧ g1 = up g 20 0 20 0)))) 0 0 (AA N0) := by
  refine Met.ofW (cc := cX5_reason) (maxL := 3) (ret := (some .char)) (by decide) rfl ?_
  intro pP eP sP mP args below meth cP s₁ B hmlP hvP
  obtain ⟨rfl, hW, hC⟩ := hvP
  have hx := B.exec
  have hb := B.bytes
  have hr := B.returns
  have hts := atoms_spec (ws := wsX5_reason) B.pre
  have hown : sP.vm.findClass RX5 = some mP.cls := findClass_of_methodNamed B.named
  have hlocks := B.notSynchronized
  have M : Mx pP mP cP cX5_reason 3 sP ([.ref (ad 20 0), .int (x), .int (y)] : List Value).toArray wsX5_reason RX5 D Z N0 := ⟨⟨hx, hb, hmlP, hown, hts⟩, hC⟩
  have hf : Fr g g := Fr.rf g
  have hS : va_S (AA N0) sP.heap sP.heap [] := va_S.rf
  have hl := lv_entry ([.ref (ad 20 0), .int (x), .int (y)]) (n := 3) (Nat.le_of_ble_eq_true rfl)
  rw [lg_entry_eq]
  generalize (lg_sl ([.ref (ad 20 0), .int (x), .int (y)]) ++ List.replicate (3 - (lg_sl ([.ref (ad 20 0), .int (x), .int (y)])).length) Slot.unset).toArray = ls at hl ⊢
  have hl : lv_has ls 3 [(0, .ref (ad 20 0)), (1, .int (x)), (2, .int (y))] := hl
  have hsz9 := hW.2.2.1.le 20 0 21 5 rfl
  refine lv_aload_n hx hb dX5_reason_0 rfl (lv_at hl 0 rfl) ?_
  refine lv_aload_n hx hb dX5_reason_1 rfl (lv_at hl 0 rfl) ?_
  refine lv_iload_n hx hb dX5_reason_2 rfl (lv_at hl 1 rfl) ?_
  refine k_ci (k_rV (As := [.int (x)]) (rest := [.ref (ad 20 0)]) M hW hS (c_X5_isStage l D Z N0 g ad (x)) (cwV 1 hts gX5_reason_X5_isStage rfl rfl rfl (by decide +kernel) ⟨Nat.le_of_ble_eq_true rfl, Nat.le_of_ble_eq_true rfl⟩) (r_recv M.2 hW 20 0 (lvM _) rfl rfl) rfl hl.1 rfl (Nat.le_of_ble_eq_true rfl) dX5_reason_3 ⟨Nat.le_of_ble_eq_true rfl, Nat.le_of_ble_eq_true rfl⟩) hS (fun r2_z g1_z H locs hp hW hS => ?_)
  obtain ⟨hf1, hp⟩ := hp
  have hf : Fr g g1_z := hf.trans hf1
  obtain ⟨hp, hg⟩ := hp
  subst hg
  rcases hp with ⟨rfl, c3_z⟩ | ⟨rfl, c3_z⟩
  · obtain ⟨i, hi, rfl⟩ := c3_z
    refine n_if_eq (tgt := 22) hx hb (by decide) dX5_reason_6 (by decide) (fun h9 => absurd h9 (by decide)) (fun _ => ?_)
    refine lv_iload_n hx hb dX5_reason_9 rfl (lv_at hl 2 rfl) ?_
    refine lv_iconst (v := nI 0) hx hb dX5_reason_10 (by decide) ?_
    refine lv_iconst (v := nI 1) hx hb dX5_reason_11 (by decide) ?_
    refine k_ci (k_rS (As := [.int (y), .int (nI (0)), .int (nI (1))]) (rest := [.ref (ad 20 0)]) M hW hS (c_X5_in l D Z N0 g ad (y) (nI (0)) (nI (1))) (va_cwS 3 hts gX5_reason_X5_in rfl rfl rfl (by decide +kernel) ⟨Nat.le_of_ble_eq_true rfl, Nat.le_of_ble_eq_true rfl⟩) rfl hl.1 rfl (Nat.le_of_ble_eq_true rfl) dX5_reason_12 ⟨Nat.le_of_ble_eq_true rfl, Nat.le_of_ble_eq_true rfl⟩) hS (fun r6_z g5_z H locs hp hW hS => ?_)
    obtain ⟨hf1, hp⟩ := hp
    have hf : Fr g g5_z := hf.trans hf1
    obtain ⟨hp, hg⟩ := hp
    subst hg
    rcases hp with ⟨rfl, c7_z⟩ | ⟨rfl, c7_z⟩
    · obtain ⟨s, hs, rfl⟩ := (ix0_iff (n := 1) (by decide)).mp c7_z
      refine n_if_eq (tgt := 22) hx hb (by decide) dX5_reason_15 (by decide) (fun h9 => absurd h9 (by decide)) (fun _ => ?_)
      refine lv_iconst (v := nI 1) hx hb dX5_reason_18 (by decide) ?_
      refine lv_goto (tgt := 23) hx hb dX5_reason_19 (by decide) ?_
      refine k_ci (k_rV (As := [.int (nI (1))]) (rest := []) M hW hS (c_X5_checked l D Z N0 g ad 1 (show 1 ≤ 1 by decide)) (cwV 1 hts gX5_reason_X5_checked rfl rfl rfl (by decide +kernel) ⟨Nat.le_of_ble_eq_true rfl, Nat.le_of_ble_eq_true rfl⟩) (r_recv M.2 hW 20 0 (lvM _) rfl rfl) rfl hl.1 rfl (Nat.le_of_ble_eq_true rfl) dX5_reason_23 ⟨Nat.le_of_ble_eq_true rfl, Nat.le_of_ble_eq_true rfl⟩) hS (fun r10_z g9_z H locs hp hW hS => ?_)
      obtain ⟨hf1, hp⟩ := hp
      have hf : Fr g g9_z := hf.trans hf1
      obtain ⟨hr9, eg9_z⟩ := hp
      have hr9 : r10_z = nI 0 := hr9
      subst hr9
      have eg9_z : g9_z = up g 20 0 20 0 := eg9_z
      refine n_if_le (tgt := 34) hx hb (by decide) dX5_reason_26 (by decide) (fun _ => ?_) (fun h9 => absurd h9 (by decide))
      refine lv_aload_n hx hb dX5_reason_34 rfl (lv_at hl 0 rfl) ?_
      refine lv_iload_n hx hb dX5_reason_35 rfl (lv_at hl 1 rfl) ?_
      refine lv_iload_n hx hb dX5_reason_36 rfl (lv_at hl 2 rfl) ?_
      refine k_ci (k_rV (As := [.int (nI (i)), .int (nI (s))]) (rest := []) M hW hS (c_X5_reasonOf l D Z N0 g9_z ad i s (by omega) (by omega)) (cwV 2 hts gX5_reason_X5_reasonOf rfl rfl rfl (by decide +kernel) ⟨Nat.le_of_ble_eq_true rfl, Nat.le_of_ble_eq_true rfl⟩) (r_recv M.2 hW 20 0 (lvM _) rfl rfl) rfl hl.1 rfl (Nat.le_of_ble_eq_true rfl) dX5_reason_37 ⟨Nat.le_of_ble_eq_true rfl, Nat.le_of_ble_eq_true rfl⟩) hS (fun r13_z g12_z H locs hp hW hS => ?_)
      obtain ⟨hf1, hp⟩ := hp
      have hf : Fr g g12_z := hf.trans hf1
      obtain ⟨rfl, hg⟩ := hp
      subst hg
      -- path 1
      exact W.zret (v := nI (mRe g9_z i s)) (ty := .char) hx hb hr (nar_c (mRe_le g9_z i s)) (fun t ht hW9 => ⟨⟨nI (mRe g9_z i s), g9_z, rfl, ⟨hf, (by subst eg9_z; exact Or.inr ⟨i, s, hi, rfl, hs, rfl, rfl, rfl⟩)⟩, (show Wd D Z N0 g9_z ad t.heap by rw [ht]; exact hW)⟩, hS.F ht⟩) hS.2.2 dX5_reason_40
    · refine n_if_eq (tgt := 22) hx hb (by decide) dX5_reason_15 (by decide) (fun _ => ?_) (fun h9 => absurd h9 (by decide))
      refine lv_iconst (v := nI 0) hx hb dX5_reason_22 (by decide) ?_
      refine k_ci (k_rV (As := [.int (nI (0))]) (rest := []) M hW hS (c_X5_checked l D Z N0 g ad 0 (show 0 ≤ 1 by decide)) (cwV 1 hts gX5_reason_X5_checked rfl rfl rfl (by decide +kernel) ⟨Nat.le_of_ble_eq_true rfl, Nat.le_of_ble_eq_true rfl⟩) (r_recv M.2 hW 20 0 (lvM _) rfl rfl) rfl hl.1 rfl (Nat.le_of_ble_eq_true rfl) dX5_reason_23 ⟨Nat.le_of_ble_eq_true rfl, Nat.le_of_ble_eq_true rfl⟩) hS (fun r16_z g15_z H locs hp hW hS => ?_)
      obtain ⟨hf1, hp⟩ := hp
      have hf : Fr g g15_z := hf.trans hf1
      obtain ⟨hr9, eg15_z⟩ := hp
      have hr9 : r16_z = nI 1 := hr9
      subst hr9
      have eg15_z : g15_z = up g 20 0 20 1 := eg15_z
      refine n_if_le (tgt := 34) hx hb (by decide) dX5_reason_26 (by decide) (fun h9 => absurd h9 (by decide)) (fun _ => ?_)
      refine lv_bipush (v := nI 32) hx hb dX5_reason_29 (by decide) ?_
      refine lv_goto (tgt := 40) hx hb dX5_reason_31 (by decide) ?_
      -- path 2
      exact W.zret (v := nI (32)) (ty := .char) hx hb hr (by decide) (fun t ht hW9 => ⟨⟨nI (32), g15_z, rfl, ⟨hf, (by subst eg15_z; exact Or.inl ⟨Or.inr (fun h => c7_z ((ix0_iff (n := 1) (by decide)).mpr h)), rfl, rfl⟩)⟩, (show Wd D Z N0 g15_z ad t.heap by rw [ht]; exact hW)⟩, hS.F ht⟩) hS.2.2 dX5_reason_40
  · refine n_if_eq (tgt := 22) hx hb (by decide) dX5_reason_6 (by decide) (fun _ => ?_) (fun h9 => absurd h9 (by decide))
    refine lv_iconst (v := nI 0) hx hb dX5_reason_22 (by decide) ?_
    refine k_ci (k_rV (As := [.int (nI (0))]) (rest := []) M hW hS (c_X5_checked l D Z N0 g ad 0 (show 0 ≤ 1 by decide)) (cwV 1 hts gX5_reason_X5_checked rfl rfl rfl (by decide +kernel) ⟨Nat.le_of_ble_eq_true rfl, Nat.le_of_ble_eq_true rfl⟩) (r_recv M.2 hW 20 0 (lvM _) rfl rfl) rfl hl.1 rfl (Nat.le_of_ble_eq_true rfl) dX5_reason_23 ⟨Nat.le_of_ble_eq_true rfl, Nat.le_of_ble_eq_true rfl⟩) hS (fun r20_z g19_z H locs hp hW hS => ?_)
    obtain ⟨hf1, hp⟩ := hp
    have hf : Fr g g19_z := hf.trans hf1
    obtain ⟨hr9, eg19_z⟩ := hp
    have hr9 : r20_z = nI 1 := hr9
    subst hr9
    have eg19_z : g19_z = up g 20 0 20 1 := eg19_z
    refine n_if_le (tgt := 34) hx hb (by decide) dX5_reason_26 (by decide) (fun h9 => absurd h9 (by decide)) (fun _ => ?_)
    refine lv_bipush (v := nI 32) hx hb dX5_reason_29 (by decide) ?_
    refine lv_goto (tgt := 40) hx hb dX5_reason_31 (by decide) ?_
    -- path 3
    exact W.zret (v := nI (32)) (ty := .char) hx hb hr (by decide) (fun t ht hW9 => ⟨⟨nI (32), g19_z, rfl, ⟨hf, (by subst eg19_z; exact Or.inl ⟨Or.inl c3_z, rfl, rfl⟩)⟩, (show Wd D Z N0 g19_z ad t.heap by rw [ht]; exact hW)⟩, hS.F ht⟩) hS.2.2 dX5_reason_40

set_option maxHeartbeats 4000000 in
set_option maxRecDepth 100000 in
theorem c_X5_measures (l : Launch) (D : va_G) (Z : Nat → Nat) (N0 : Nat) (g : T3) (ad : T2) (i s : Nat) (hi6 : i < 6) (hs2 : s < 2) (he : g 20 0 26 < 12) : Met l yX5_measures wsX5_measures ({ frames := 1, cells := 0, slots := 0, locals := 100 } : Room) (PC D Z N0 g ad [.ref (ad 20 0), .int (nI (i)), .int (nI (s))]) (QV D Z N0 ad (fun (g1 : T3) => Fr g g1 ∧ (g1 = mMe g i s))) 0 0 (AA N0) := by
  refine Met.ofW (cc := cX5_measures) (maxL := 4) (ret := none) (by decide) rfl ?_
  intro pP eP sP mP args below meth cP s₁ B hmlP hvP
  obtain ⟨rfl, hW, hC⟩ := hvP
  have hx := B.exec
  have hb := B.bytes
  have hr := B.returns
  have hts := atoms_spec (ws := wsX5_measures) B.pre
  have hown : sP.vm.findClass RX5 = some mP.cls := findClass_of_methodNamed B.named
  have hlocks := B.notSynchronized
  have i_X5 : ∀ w ∈ wsX50, w ∈ wsX5_measures := (fun _ h => List.mem_cons_of_mem _ (List.mem_append_left _ (List.mem_append_right _ h)))
  have k_19 : Cond.fieldLink RX5 19 "StartChainModel" "registersOf" "[I" ∈ wsX5_measures := by decide +kernel
  have k_53 : Cond.fieldLink RX5 53 "StartChainModel" "triedLog" "[I" ∈ wsX5_measures := by decide +kernel
  have k_91 : Cond.fieldLink RX5 91 "StartChainModel" "triedEntries" "I" ∈ wsX5_measures := by decide +kernel
  have k_35 : Cond.fieldLink RX5 35 "StartChainModel" "measures" "[I" ∈ wsX5_measures := by decide +kernel
  have k_56 : Cond.fieldLink RX5 56 "StartChainModel" "triedValues" "[I" ∈ wsX5_measures := by decide +kernel
  have M : Mx pP mP cP cX5_measures 4 sP ([.ref (ad 20 0), .int (nI (i)), .int (nI (s))] : List Value).toArray wsX5_measures RX5 D Z N0 := ⟨⟨hx, hb, hmlP, hown, hts⟩, hC⟩
  have hf : Fr g g := Fr.rf g
  have hS : va_S (AA N0) sP.heap sP.heap [] := va_S.rf
  have hl := lv_entry ([.ref (ad 20 0), .int (nI (i)), .int (nI (s))]) (n := 4) (Nat.le_of_ble_eq_true rfl)
  rw [lg_entry_eq]
  generalize (lg_sl ([.ref (ad 20 0), .int (nI (i)), .int (nI (s))]) ++ List.replicate (4 - (lg_sl ([.ref (ad 20 0), .int (nI (i)), .int (nI (s))])).length) Slot.unset).toArray = ls at hl ⊢
  have hl : lv_has ls 4 [(0, .ref (ad 20 0)), (1, .int (nI (i))), (2, .int (nI (s)))] := hl
  refine lv_aload_n hx hb dX5_measures_0 rfl (lv_at hl 0 rfl) ?_
  refine r_get M hW 20 0 (lvM _) (v := .ref (ad 24 0)) rfl rfl i_X5 3 (by decide) k_19 (fun _ h9 => h9) rfl dX5_measures_1 ?_
  refine lv_iload_n hx hb dX5_measures_4 rfl (lv_at hl 1 rfl) ?_
  refine r_iald M hW 24 0 ⟨rfl, by decide, by decide⟩ (n := 6) rfl (by omega) (by decide) dX5_measures_5 ?_
  have b1_z : g 24 0 i ≤ 2 := hW.2.2.1.le 24 0 i 1 rfl
  refine lv_istore_n (lv' := [(3, .int (nI (g 24 0 i))), (0, .ref (ad 20 0)), (1, .int (nI (i))), (2, .int (nI (s)))]) hx hb dX5_measures_6 rfl hl (by decide) rfl (fun ls hl => ?_)
  refine lv_aload_n hx hb dX5_measures_7 rfl (lv_at hl 1 rfl) ?_
  refine r_get M hW 20 0 (lvM _) (v := .ref (ad 35 0)) rfl rfl i_X5 14 (by decide) k_53 (fun _ h9 => h9) rfl dX5_measures_8 ?_
  refine lv_aload_n hx hb dX5_measures_11 rfl (lv_at hl 1 rfl) ?_
  have b2_z : g 20 0 26 ≤ 12 := hW.2.2.1.le 20 0 26 11 rfl
  refine r_get M hW 20 0 (lvM _) (v := .int (nI (g 20 0 26))) rfl rfl i_X5 26 (by decide) k_91 (fun _ h9 => h9) rfl dX5_measures_12 ?_
  refine lv_sipush (v := nI 1000) hx hb dX5_measures_15 (by decide) ?_
  refine lv_iload_n hx hb dX5_measures_18 rfl (lv_at hl 0 rfl) ?_
  refine n_imul hx hb dX5_measures_19 ?_
  refine lv_aload_n hx hb dX5_measures_20 rfl (lv_at hl 1 rfl) ?_
  refine r_get M hW 20 0 (lvM _) (v := .ref (ad 29 0)) rfl rfl i_X5 8 (by decide) k_35 (fun _ h9 => h9) rfl dX5_measures_21 ?_
  refine lv_iload_n hx hb dX5_measures_24 rfl (lv_at hl 2 rfl) ?_
  refine lv_iload_n hx hb dX5_measures_25 rfl (lv_at hl 3 rfl) ?_
  refine k_ci (k_rS (As := [.int (nI (i)), .int (nI (s))]) (rest := [.ref (ad 29 0), .int (nI (1000 * (g 24 0 i))), .int (nI (g 20 0 26)), .ref (ad 35 0)]) M hW hS (c_X5_at l D Z N0 g ad i s) (va_cwS 2 hts gX5_measures_X5_at rfl rfl rfl (by decide +kernel) ⟨Nat.le_of_ble_eq_true rfl, Nat.le_of_ble_eq_true rfl⟩) rfl hl.1 rfl (Nat.le_of_ble_eq_true rfl) dX5_measures_26 ⟨Nat.le_of_ble_eq_true rfl, Nat.le_of_ble_eq_true rfl⟩) hS (fun r4_z g3_z H locs hp hW hS => ?_)
  obtain ⟨hf1, hp⟩ := hp
  have hf : Fr g g3_z := hf.trans hf1
  obtain ⟨rfl, hg⟩ := hp
  subst hg
  refine r_iald M hW 29 0 ⟨rfl, by decide, by decide⟩ (n := 12) rfl (by omega) (by decide) dX5_measures_29 ?_
  have b5_z : g 29 0 (2 * i + s) ≤ 999 := hW.2.2.1.le 29 0 (2 * i + s) 998 rfl
  refine n_iadd hx hb dX5_measures_30 ?_
  refine r_ist M hW hS 35 0 ⟨rfl, by decide, by decide⟩ (n := 12) (fun _ => rfl) (by omega) (by decide) rfl (Or.inr (show 1000 * (g 24 0 i) + g 29 0 (2 * i + s) ≤ 2999 by omega)) dX5_measures_31 (fun H locs hW hS => ?_)
  obtain ⟨g6_z, eg6_z⟩ : ∃ z, z = up g 35 0 (g 20 0 26) (1000 * (g 24 0 i) + g 29 0 (2 * i + s)) := ⟨_, rfl⟩
  rw [← eg6_z] at hW
  have hf : Fr g g6_z := by rw [eg6_z]; exact hf.up rfl
  refine lv_aload_n hx hb dX5_measures_32 rfl (lv_at hl 1 rfl) ?_
  refine lv_dup hx hb dX5_measures_33 rfl ?_
  have q7_z : g6_z 20 0 26 = g 20 0 26 := by rw [eg6_z]; first | rfl | simp [up_at]
  have b8_z : g6_z 20 0 26 ≤ 12 := hW.2.2.1.le 20 0 26 11 rfl
  refine r_get M hW 20 0 (lvM _) (v := .int (nI (g6_z 20 0 26))) rfl rfl i_X5 26 (by decide) k_91 (fun _ h9 => h9) rfl dX5_measures_34 ?_
  refine lv_iconst (v := nI 1) hx hb dX5_measures_37 (by decide) ?_
  refine n_iadd hx hb dX5_measures_38 ?_
  refine r_put M hW hS 20 0 (lvM _) rfl rfl i_X5 tyX5 tyX5_ok nmX5 26 (by decide) k_91 (fun _ h9 => h9) rfl (ty := .int) (by decide +kernel) rfl rfl (Nat.le_of_ble_eq_true rfl) rfl rfl (Or.inr (show g6_z 20 0 26 + 1 ≤ 12 by omega)) dX5_measures_39 (fun H locs hW hS => ?_)
  obtain ⟨g9_z, eg9_z⟩ : ∃ z, z = up g6_z 20 0 26 (g6_z 20 0 26 + 1) := ⟨_, rfl⟩
  rw [← eg9_z] at hW
  have hf : Fr g g9_z := by rw [eg9_z]; exact hf.up rfl
  refine lv_aload_n hx hb dX5_measures_42 rfl (lv_at hl 1 rfl) ?_
  refine r_get M hW 20 0 (lvM _) (v := .ref (ad 36 0)) rfl rfl i_X5 15 (by decide) k_56 (fun _ h9 => h9) rfl dX5_measures_43 ?_
  refine lv_iload_n hx hb dX5_measures_46 rfl (lv_at hl 0 rfl) ?_
  refine lv_aload_n hx hb dX5_measures_47 rfl (lv_at hl 1 rfl) ?_
  refine r_get M hW 20 0 (lvM _) (v := .ref (ad 36 0)) rfl rfl i_X5 15 (by decide) k_56 (fun _ h9 => h9) rfl dX5_measures_48 ?_
  refine lv_iload_n hx hb dX5_measures_51 rfl (lv_at hl 0 rfl) ?_
  refine r_iald M hW 36 0 ⟨rfl, by decide, by decide⟩ (n := 3) rfl (Nat.lt_of_le_of_lt b1_z (by decide)) (by decide) dX5_measures_52 ?_
  have b10_z : g9_z 36 0 (g 24 0 i) ≤ 9972 := hW.2.2.1.le 36 0 (g 24 0 i) 9971 rfl
  refine lv_aload_n hx hb dX5_measures_53 rfl (lv_at hl 1 rfl) ?_
  refine r_get M hW 20 0 (lvM _) (v := .ref (ad 29 0)) rfl rfl i_X5 8 (by decide) k_35 (fun _ h9 => h9) rfl dX5_measures_54 ?_
  refine lv_iload_n hx hb dX5_measures_57 rfl (lv_at hl 2 rfl) ?_
  refine lv_iload_n hx hb dX5_measures_58 rfl (lv_at hl 3 rfl) ?_
  refine k_ci (k_rS (As := [.int (nI (i)), .int (nI (s))]) (rest := [.ref (ad 29 0), .int (nI (g9_z 36 0 (g 24 0 i))), .int (nI (g 24 0 i)), .ref (ad 36 0)]) M hW hS (c_X5_at l D Z N0 g9_z ad i s) (va_cwS 2 hts gX5_measures_X5_at rfl rfl rfl (by decide +kernel) ⟨Nat.le_of_ble_eq_true rfl, Nat.le_of_ble_eq_true rfl⟩) rfl hl.1 rfl (Nat.le_of_ble_eq_true rfl) dX5_measures_59 ⟨Nat.le_of_ble_eq_true rfl, Nat.le_of_ble_eq_true rfl⟩) hS (fun r12_z g11_z H locs hp hW hS => ?_)
  obtain ⟨hf1, hp⟩ := hp
  have hf : Fr g g11_z := hf.trans hf1
  obtain ⟨rfl, hg⟩ := hp
  subst hg
  refine r_iald M hW 29 0 ⟨rfl, by decide, by decide⟩ (n := 12) rfl (by omega) (by decide) dX5_measures_62 ?_
  have b13_z : g9_z 29 0 (2 * i + s) ≤ 999 := hW.2.2.1.le 29 0 (2 * i + s) 998 rfl
  refine k_ci (k_rS (As := [.int (nI (g9_z 36 0 (g 24 0 i))), .int (nI (g9_z 29 0 (2 * i + s)))]) (rest := [.int (nI (g 24 0 i)), .ref (ad 36 0)]) M hW hS (c_X5_extended l D Z N0 g9_z ad (g9_z 36 0 (g 24 0 i)) (g9_z 29 0 (2 * i + s)) b10_z b13_z) (va_cwS 2 hts gX5_measures_X5_extended rfl rfl rfl (by decide +kernel) ⟨Nat.le_of_ble_eq_true rfl, Nat.le_of_ble_eq_true rfl⟩) rfl hl.1 rfl (Nat.le_of_ble_eq_true rfl) dX5_measures_63 ⟨Nat.le_of_ble_eq_true rfl, Nat.le_of_ble_eq_true rfl⟩) hS (fun r15_z g14_z H locs hp hW hS => ?_)
  obtain ⟨hf1, hp⟩ := hp
  have hf : Fr g g14_z := hf.trans hf1
  obtain ⟨rfl, hg⟩ := hp
  subst hg
  have b16_z : (31 * (g9_z 36 0 (g 24 0 i)) + (g9_z 29 0 (2 * i + s)) + 1) % 9973 ≤ 9972 := by omega
  refine r_ist M hW hS 36 0 ⟨rfl, by decide, by decide⟩ (n := 3) (fun _ => rfl) (Nat.lt_of_le_of_lt b1_z (by decide)) (by decide) rfl (Or.inr b16_z) dX5_measures_66 (fun H locs hW hS => ?_)
  obtain ⟨g17_z, eg17_z⟩ : ∃ z, z = up g9_z 36 0 (g 24 0 i) ((31 * (g9_z 36 0 (g 24 0 i)) + (g9_z 29 0 (2 * i + s)) + 1) % 9973) := ⟨_, rfl⟩
  rw [← eg17_z] at hW
  have hf : Fr g g17_z := by rw [eg17_z]; exact hf.up rfl
  -- path 1
  exact W.vret hx hb hr (fun t ht hW9 => ⟨⟨g17_z, rfl, ⟨hf, (by subst eg17_z eg9_z eg6_z; simp only [mMe])⟩, (show Wd D Z N0 g17_z ad t.heap by rw [ht]; exact hW)⟩, hS.F ht⟩) hS.2.2 dX5_measures_67

set_option maxHeartbeats 4000000 in
set_option maxRecDepth 100000 in
theorem c_X5_tries (l : Launch) (D : va_G) (Z : Nat → Nat) (N0 : Nat) (g : T3) (ad : T2) (i s : Nat) (hi6 : i < 6) (hs2 : s < 2) (he : g 20 0 26 < 12) : Met l yX5_tries wsX5_tries ({ frames := 2, cells := 0, slots := 0, locals := 140 } : Room) (PC D Z N0 g ad [.ref (ad 20 0), .int (nI (i)), .int (nI (s))]) (QI D Z N0 ad (fun (r : Int32) (g1 : T3) => Fr g g1 ∧ (r = nI (mTr g i s).1 ∧ g1 = (mTr g i s).2))) 0 0 (AA N0) := by
  refine Met.ofW (cc := cX5_tries) (maxL := 4) (ret := (some .boolean)) (by decide) rfl ?_
  intro pP eP sP mP args below meth cP s₁ B hmlP hvP
  obtain ⟨rfl, hW, hC⟩ := hvP
  have hx := B.exec
  have hb := B.bytes
  have hr := B.returns
  have hts := atoms_spec (ws := wsX5_tries) B.pre
  have hown : sP.vm.findClass RX5 = some mP.cls := findClass_of_methodNamed B.named
  have hlocks := B.notSynchronized
  have i_X5 : ∀ w ∈ wsX50, w ∈ wsX5_tries := (fun _ h => List.mem_cons_of_mem _ (List.mem_append_left _ (List.mem_append_right _ h)))
  have k_50 : Cond.fieldLink RX5 50 "StartChainModel" "tried" "[I" ∈ wsX5_tries := by decide +kernel
  have M : Mx pP mP cP cX5_tries 4 sP ([.ref (ad 20 0), .int (nI (i)), .int (nI (s))] : List Value).toArray wsX5_tries RX5 D Z N0 := ⟨⟨hx, hb, hmlP, hown, hts⟩, hC⟩
  have hf : Fr g g := Fr.rf g
  have hS : va_S (AA N0) sP.heap sP.heap [] := va_S.rf
  have hl := lv_entry ([.ref (ad 20 0), .int (nI (i)), .int (nI (s))]) (n := 4) (Nat.le_of_ble_eq_true rfl)
  rw [lg_entry_eq]
  generalize (lg_sl ([.ref (ad 20 0), .int (nI (i)), .int (nI (s))]) ++ List.replicate (4 - (lg_sl ([.ref (ad 20 0), .int (nI (i)), .int (nI (s))])).length) Slot.unset).toArray = ls at hl ⊢
  have hl : lv_has ls 4 [(0, .ref (ad 20 0)), (1, .int (nI (i))), (2, .int (nI (s)))] := hl
  refine lv_aload_n hx hb dX5_tries_0 rfl (lv_at hl 0 rfl) ?_
  refine lv_iload_n hx hb dX5_tries_1 rfl (lv_at hl 1 rfl) ?_
  refine lv_iload_n hx hb dX5_tries_2 rfl (lv_at hl 2 rfl) ?_
  refine k_ci (k_rV (As := [.int (nI (i)), .int (nI (s))]) (rest := []) M hW hS (c_X5_reasonOf l D Z N0 g ad i s hi6 hs2) (cwV 2 hts gX5_tries_X5_reasonOf rfl rfl rfl (by decide +kernel) ⟨Nat.le_of_ble_eq_true rfl, Nat.le_of_ble_eq_true rfl⟩) (r_recv M.2 hW 20 0 (lvM _) rfl rfl) rfl hl.1 rfl (Nat.le_of_ble_eq_true rfl) dX5_tries_3 ⟨Nat.le_of_ble_eq_true rfl, Nat.le_of_ble_eq_true rfl⟩) hS (fun r2_z g1_z H locs hp hW hS => ?_)
  obtain ⟨hf1, hp⟩ := hp
  have hf : Fr g g1_z := hf.trans hf1
  obtain ⟨rfl, hg⟩ := hp
  subst hg
  refine lv_istore_n (lv' := [(3, .int (nI (mRe g i s))), (0, .ref (ad 20 0)), (1, .int (nI (i))), (2, .int (nI (s)))]) hx hb dX5_tries_6 rfl hl (by decide) rfl (fun ls hl => ?_)
  refine lv_iload_n hx hb dX5_tries_7 rfl (lv_at hl 0 rfl) ?_
  refine lv_bipush (v := nI 98) hx hb dX5_tries_8 (by decide) ?_
  refine n_icmp_eq (tgt := 19) hx hb (Nat.lt_of_le_of_lt (mRe_le g i s) (by decide)) (by decide) dX5_tries_10 (by decide) (fun c3_z => ?_) (fun c3_z => ?_)
  · refine lv_aload_n hx hb dX5_tries_19 rfl (lv_at hl 1 rfl) ?_
    refine lv_iload_n hx hb dX5_tries_20 rfl (lv_at hl 2 rfl) ?_
    refine lv_iload_n hx hb dX5_tries_21 rfl (lv_at hl 3 rfl) ?_
    refine k_cv (k_rV (As := [.int (nI (i)), .int (nI (s))]) (rest := []) M hW hS (c_X5_measures l D Z N0 g ad i s hi6 hs2 (by omega)) (cwV 2 hts gX5_tries_X5_measures rfl rfl rfl (by decide +kernel) ⟨Nat.le_of_ble_eq_true rfl, Nat.le_of_ble_eq_true rfl⟩) (r_recv M.2 hW 20 0 (lvM _) rfl rfl) rfl hl.1 rfl (Nat.le_of_ble_eq_true rfl) dX5_tries_22 ⟨Nat.le_of_ble_eq_true rfl, Nat.le_of_ble_eq_true rfl⟩) hS (fun g4_z H locs hp hW hS => ?_)
    obtain ⟨hf1, hp⟩ := hp
    have hf : Fr g g4_z := hf.trans hf1
    have eg4_z : g4_z = mMe g i s := hp
    refine lv_iload_n hx hb dX5_tries_25 rfl (lv_at hl 0 rfl) ?_
    refine lv_bipush (v := nI 45) hx hb dX5_tries_26 (by decide) ?_
    refine n_icmp_eq (tgt := 33) hx hb (Nat.lt_of_le_of_lt (mRe_le g i s) (by decide)) (by decide) dX5_tries_28 (by decide) (fun c6_z => ?_) (fun c6_z => ?_)
    · exact absurd (c3_z.symm.trans c6_z) (by decide)
    · refine lv_iconst (v := nI 0) hx hb dX5_tries_31 (by decide) ?_
      -- path 1
      exact W.zret (v := nI (0)) (ty := .boolean) hx hb hr (nar_b (show 0 ≤ 1 by decide)) (fun t ht hW9 => ⟨⟨nI (0), g4_z, rfl, ⟨hf, (by subst eg4_z; simp only [mTr, if_pos c3_z, if_neg c6_z, and_self, true_and])⟩, (show Wd D Z N0 g4_z ad t.heap by rw [ht]; exact hW)⟩, hS.F ht⟩) hS.2.2 dX5_tries_32
  · refine lv_iload_n hx hb dX5_tries_13 rfl (lv_at hl 0 rfl) ?_
    refine lv_bipush (v := nI 45) hx hb dX5_tries_14 (by decide) ?_
    refine n_icmp_ne (tgt := 25) hx hb (Nat.lt_of_le_of_lt (mRe_le g i s) (by decide)) (by decide) dX5_tries_16 (by decide) (fun c7_z => ?_) (fun c7_z => ?_)
    · refine lv_iload_n hx hb dX5_tries_25 rfl (lv_at hl 0 rfl) ?_
      refine lv_bipush (v := nI 45) hx hb dX5_tries_26 (by decide) ?_
      refine n_icmp_eq (tgt := 33) hx hb (Nat.lt_of_le_of_lt (mRe_le g i s) (by decide)) (by decide) dX5_tries_28 (by decide) (fun c8_z => ?_) (fun c8_z => ?_)
      · exact absurd c8_z c7_z
      · refine lv_iconst (v := nI 0) hx hb dX5_tries_31 (by decide) ?_
        -- path 2
        exact W.zret (v := nI (0)) (ty := .boolean) hx hb hr (nar_b (show 0 ≤ 1 by decide)) (fun t ht hW9 => ⟨⟨nI (0), g, rfl, ⟨hf, (by simp only [mTr, if_neg c3_z, if_neg c7_z, if_neg c8_z, and_self, true_and])⟩, (show Wd D Z N0 g ad t.heap by rw [ht]; exact hW)⟩, hS.F ht⟩) hS.2.2 dX5_tries_32
    · refine lv_aload_n hx hb dX5_tries_19 rfl (lv_at hl 1 rfl) ?_
      refine lv_iload_n hx hb dX5_tries_20 rfl (lv_at hl 2 rfl) ?_
      refine lv_iload_n hx hb dX5_tries_21 rfl (lv_at hl 3 rfl) ?_
      refine k_cv (k_rV (As := [.int (nI (i)), .int (nI (s))]) (rest := []) M hW hS (c_X5_measures l D Z N0 g ad i s hi6 hs2 (by omega)) (cwV 2 hts gX5_tries_X5_measures rfl rfl rfl (by decide +kernel) ⟨Nat.le_of_ble_eq_true rfl, Nat.le_of_ble_eq_true rfl⟩) (r_recv M.2 hW 20 0 (lvM _) rfl rfl) rfl hl.1 rfl (Nat.le_of_ble_eq_true rfl) dX5_tries_22 ⟨Nat.le_of_ble_eq_true rfl, Nat.le_of_ble_eq_true rfl⟩) hS (fun g9_z H locs hp hW hS => ?_)
      obtain ⟨hf1, hp⟩ := hp
      have hf : Fr g g9_z := hf.trans hf1
      have eg9_z : g9_z = mMe g i s := hp
      refine lv_iload_n hx hb dX5_tries_25 rfl (lv_at hl 0 rfl) ?_
      refine lv_bipush (v := nI 45) hx hb dX5_tries_26 (by decide) ?_
      refine n_icmp_eq (tgt := 33) hx hb (Nat.lt_of_le_of_lt (mRe_le g i s) (by decide)) (by decide) dX5_tries_28 (by decide) (fun c11_z => ?_) (fun c11_z => ?_)
      · refine lv_aload_n hx hb dX5_tries_33 rfl (lv_at hl 1 rfl) ?_
        refine r_get M hW 20 0 (lvM _) (v := .ref (ad 34 0)) rfl rfl i_X5 13 (by decide) k_50 (fun _ h9 => h9) rfl dX5_tries_34 ?_
        refine lv_iload_n hx hb dX5_tries_37 rfl (lv_at hl 2 rfl) ?_
        refine lv_iload_n hx hb dX5_tries_38 rfl (lv_at hl 3 rfl) ?_
        refine r_ist M hW hS 34 0 ⟨rfl, by decide, by decide⟩ (n := 6) (fun _ => rfl) (by omega) (by decide) rfl (Or.inr (show s ≤ 1 by omega)) dX5_tries_39 (fun H locs hW hS => ?_)
        obtain ⟨g12_z, eg12_z⟩ : ∃ z, z = up g9_z 34 0 i s := ⟨_, rfl⟩
        rw [← eg12_z] at hW
        have hf : Fr g g12_z := by rw [eg12_z]; exact hf.up rfl
        refine lv_iconst (v := nI 1) hx hb dX5_tries_40 (by decide) ?_
        -- path 3
        exact W.zret (v := nI (1)) (ty := .boolean) hx hb hr (nar_b (show 1 ≤ 1 by decide)) (fun t ht hW9 => ⟨⟨nI (1), g12_z, rfl, ⟨hf, (by subst eg12_z eg9_z; simp only [mTr, if_neg c3_z, if_pos c7_z, if_pos c11_z, and_self, true_and])⟩, (show Wd D Z N0 g12_z ad t.heap by rw [ht]; exact hW)⟩, hS.F ht⟩) hS.2.2 dX5_tries_41
      · exact absurd c7_z c11_z
