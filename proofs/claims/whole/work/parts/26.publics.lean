/-! THE PUBLIC METHODS OF THE CLASS, those that make no object. -/
def stF (g : T3) : T3 := up (sInto g 0) 0 0 7 (sInto g 0 0 0 7 + sInto g 0 5 0 6)
def cmt (g : T3) : Nat → Nat × T3
  | 0 => (0, g)
  | k + 1 => if (cmt g k).2 9 0 k ≤ (cmt g k).2 10 k 3 then cmt g k else ((cmt g k).1 + 1, up (cmt g k).2 10 k 3 ((cmt g k).2 9 0 k))
theorem cmt_0 {g : T3} {k : Nat} (h : (cmt g k).2 9 0 k ≤ (cmt g k).2 10 k 3) : cmt g (k + 1) = cmt g k := if_pos h
theorem cmt_1 {g : T3} {k : Nat} (h : ¬ (cmt g k).2 9 0 k ≤ (cmt g k).2 10 k 3) : cmt g (k + 1) = ((cmt g k).1 + 1, up (cmt g k).2 10 k 3 ((cmt g k).2 9 0 k)) := if_neg h
def rbl (g : T3) (p r : Nat) : Nat → Nat
  | 0 => 0
  | k + 1 => if g 7 p k / 1000 = r then (31 * rbl g p r k + g 7 p k % 1000 + 1) % 9973 else rbl g p r k
theorem rbl_le (g : T3) (p r : Nat) : ∀ k, rbl g p r k ≤ 9972
  | 0 => Nat.zero_le _
  | k + 1 => by
    show (if g 7 p k / 1000 = r then (31 * rbl g p r k + g 7 p k % 1000 + 1) % 9973 else rbl g p r k) ≤ 9972
    split
    · omega
    · exact rbl_le g p r k
theorem ix_raw {n : Nat} (hn : n < 2 ^ 31) {x : Int32} : Ix n x ↔ ¬ x < nI 0 ∧ x < nI n := by
  constructor
  · rintro ⟨j, hj, rfl⟩
    refine ⟨fun h => ?_, (nI_ltI (by omega) hn).mpr hj⟩
    have h1 := (nI_ltI (a := j) (b := 0) (by omega) (by decide)).mp h
    omega
  · rintro ⟨h1, h2⟩
    obtain ⟨j, hj, rfl⟩ := nI_of (x := x) h1
    exact ⟨j, (nI_ltI hj hn).mp h2, rfl⟩
theorem nar_c {v : Nat} (h : v ≤ 127) : narrow .char (.int (nI v)) = .int (nI v) := by
  have h9 : ∀ v, v < 128 → narrow .char (.int (nI v)) = .int (nI v) := by decide +kernel
  exact h9 v (Nat.lt_succ_of_le h)
theorem fit_b {v : Nat} (h : v ≤ 1) : fits .boolean (.int (nI v)) = true := by
  rcases (show v = 0 ∨ v = 1 by omega) with rfl | rfl <;> rfl
set_option maxHeartbeats 4000000 in
set_option maxRecDepth 100000 in
theorem c_X4_setTrusted (l : Launch) (hfl : l.stackTraces = false) (D : va_G) (Z : Nat → Nat) (N0 : Nat) (g : T3) (ad : T2) (x : Int32) (b : Nat) (hb1 : b ≤ 1) : vx_Met l yX4_setTrusted wsX4_setTrusted ({ frames := 6, cells := 1, slots := 6, locals := 300 } : Room) (PC D Z N0 g ad [.ref (ad 0 0), .int (x), .int (nI (b))]) (QI D Z N0 ad (fun (r : Int32) (g1 : T3) => Fr g g1 ∧ (∃ j, 1 ≤ j ∧ j ≤ 9 ∧ x = nI j ∧ r = nI (g 1 0 j) ∧ g1 = up g 1 0 j b))) (QX D Z N0 g ad (fun E => E = "java/lang/IllegalArgumentException" ∧ ¬ Bt 9 x)) 1 6 (AA N0) := by
  refine vx_ofW (cc := cX4_setTrusted) (maxL := 4) (ret := (some .boolean)) (by decide) rfl ?_
  intro pP eP sP mP args below meth cP s₁ B hmlP hnt hvP
  obtain ⟨rfl, hW, hC⟩ := hvP
  have hx := B.exec
  have hb := B.bytes
  have hr := B.returns
  have hts := atoms_spec (ws := wsX4_setTrusted) B.pre
  have hown : sP.vm.findClass RX4 = some mP.cls := findClass_of_methodNamed B.named
  have hlocks := B.notSynchronized
  have i_X4 : ∀ w ∈ wsX40, w ∈ wsX4_setTrusted := (fun _ h => List.mem_cons_of_mem _ (List.mem_append_left _ (List.mem_append_left _ (List.mem_append_right _ h))))
  have k_9 : Cond.fieldLink RX4 9 "StartChain" "trusted" "[Z" ∈ wsX4_setTrusted := by decide +kernel
  have w_Cond_classLink_RX4_48__java_lang_IllegalArgumentException_ : Cond.classLink RX4 48 "java/lang/IllegalArgumentException" ∈ wsX4_setTrusted := by decide +kernel
  have w_Cond_initialized__java_lang_IllegalArgumentException_ : Cond.initialized "java/lang/IllegalArgumentException" ∈ wsX4_setTrusted := by decide +kernel
  have s_IAE : ∀ w ∈ (vx_atS RX4 52 "java/lang/IllegalArgumentException" thN).filter goodWord, w ∈ wsX4_setTrusted := (fun _ h => List.mem_cons_of_mem _ (List.mem_append_left _ (List.mem_append_right _ h)))
  have M : Mx pP mP cP cX4_setTrusted 4 sP ([.ref (ad 0 0), .int (x), .int (nI (b))] : List Value).toArray wsX4_setTrusted RX4 D Z N0 := ⟨⟨hx, hb, hmlP, hown, hts⟩, hC⟩
  have hf : Fr g g := Fr.rf g
  have hS : va_S (AA N0) sP.heap sP.heap [] := va_S.rf
  have hl := lv_entry ([.ref (ad 0 0), .int (x), .int (nI (b))]) (n := 4) (Nat.le_of_ble_eq_true rfl)
  rw [lg_entry_eq]
  generalize (lg_sl ([.ref (ad 0 0), .int (x), .int (nI (b))]) ++ List.replicate (4 - (lg_sl ([.ref (ad 0 0), .int (x), .int (nI (b))])).length) Slot.unset).toArray = ls at hl ⊢
  have hl : lv_has ls 4 [(0, .ref (ad 0 0)), (1, .int (x)), (2, .int (nI (b)))] := hl
  refine lv_iload_n hx hb dX4_setTrusted_0 rfl (lv_at hl 1 rfl) ?_
  refine lv_iconst (v := nI 1) hx hb dX4_setTrusted_1 (by decide) ?_
  refine lv_bipush (v := nI 9) hx hb dX4_setTrusted_2 (by decide) ?_
  refine k_ci (k_rS (As := [.int (x), .int (nI (1)), .int (nI (9))]) (rest := []) M hW hS (c_X4_isWithin l D Z N0 g ad (x) (nI (1)) (nI (9))) (va_cwS 3 hts gX4_setTrusted_X4_isWithin rfl rfl rfl (by decide +kernel) ⟨Nat.le_of_ble_eq_true rfl, Nat.le_of_ble_eq_true rfl⟩) rfl hl.1 rfl (Nat.le_of_ble_eq_true rfl) dX4_setTrusted_4 ⟨Nat.le_of_ble_eq_true rfl, Nat.le_of_ble_eq_true rfl⟩) hS (fun r2_z g1_z H locs hp hW hS => ?_)
  obtain ⟨hf1, hp⟩ := hp
  have hf : Fr g g1_z := hf.trans hf1
  obtain ⟨hp, hg⟩ := hp
  subst hg
  rcases hp with ⟨rfl, c3_z⟩ | ⟨rfl, c3_z⟩
  · obtain ⟨j, hj1, hj, rfl⟩ := (bt_iff (n := 9) (by decide)).mp c3_z
    refine n_if_ne (tgt := 20) hx hb (by decide) dX4_setTrusted_7 (by decide) (fun _ => ?_) (fun h9 => absurd h9 (by decide))
    refine lv_aload_n hx hb dX4_setTrusted_20 rfl (lv_at hl 0 rfl) ?_
    refine r_get M hW 0 0 (lv0 _) (v := .ref (ad 1 0)) rfl rfl i_X4 0 (by decide) k_9 (fun _ h9 => h9) rfl dX4_setTrusted_21 ?_
    refine lv_iload_n hx hb dX4_setTrusted_24 rfl (lv_at hl 1 rfl) ?_
    refine r_zald M hW 1 0 (lv1 _) (n := 10) rfl (Nat.lt_of_le_of_lt hj (by decide)) (by decide) dX4_setTrusted_25 ?_
    have b5_z : g 1 0 j ≤ 1 := hW.2.2.1.le 1 0 j 0 rfl
    refine lv_istore_n (lv' := [(3, .int (nI (g 1 0 j))), (0, .ref (ad 0 0)), (1, .int (nI (j))), (2, .int (nI (b)))]) hx hb dX4_setTrusted_26 rfl hl (by decide) rfl (fun ls hl => ?_)
    refine lv_aload_n hx hb dX4_setTrusted_27 rfl (lv_at hl 1 rfl) ?_
    refine r_get M hW 0 0 (lv0 _) (v := .ref (ad 1 0)) rfl rfl i_X4 0 (by decide) k_9 (fun _ h9 => h9) rfl dX4_setTrusted_28 ?_
    refine lv_iload_n hx hb dX4_setTrusted_31 rfl (lv_at hl 2 rfl) ?_
    refine lv_iload_n hx hb dX4_setTrusted_32 rfl (lv_at hl 3 rfl) ?_
    refine r_zst M hW hS 1 0 (lv1 _) (n := 10) (fun _ => rfl) (Nat.lt_of_le_of_lt hj (by decide)) (by decide) rfl hb1 (Or.inr hb1) dX4_setTrusted_33 (fun H locs hW hS => ?_)
    obtain ⟨g6_z, eg6_z⟩ : ∃ z, z = up g 1 0 j b := ⟨_, rfl⟩
    rw [← eg6_z] at hW
    have hf : Fr g g6_z := by rw [eg6_z]; exact hf.up rfl
    refine lv_iload_n hx hb dX4_setTrusted_34 rfl (lv_at hl 0 rfl) ?_
    refine vx_ret ?_
    refine W.widen (k := 1) (n := 6) (Nat.le_of_ble_eq_true rfl) (Nat.le_of_ble_eq_true rfl) ?_
    -- path 1
    exact W.zret (v := nI (g 1 0 j)) (ty := .boolean) hx hb hr (nar_b b5_z) (fun t ht hW9 => ⟨⟨nI (g 1 0 j), g6_z, rfl, ⟨hf, ⟨j, hj1, hj, rfl, rfl, eg6_z⟩⟩, (show Wd D Z N0 g6_z ad t.heap by rw [ht]; exact hW)⟩, hS.F ht⟩) hS.2.2 dX4_setTrusted_35
  · refine n_if_ne (tgt := 20) hx hb (by decide) dX4_setTrusted_7 (by decide) (fun h9 => absurd h9 (by decide)) (fun _ => ?_)
    exact k_throw (cls := "java/lang/IllegalArgumentException") (text := "no such key") M hfl hW hS (by decide +kernel) (by decide +kernel) (by decide +kernel) g_IAE n_IAE w_Cond_classLink_RX4_48__java_lang_IllegalArgumentException_ w_Cond_initialized__java_lang_IllegalArgumentException_ s_IAE hl.1 hnt hlocks ⟨rfl, fun h => c3_z ((bt_iff (n := 9) (by decide)).mpr h)⟩ dX4_setTrusted_10 dX4_setTrusted_13 dX4_setTrusted_14 dX4_setTrusted_16 dX4_setTrusted_19 (Nat.le_of_ble_eq_true rfl) (Nat.le_of_ble_eq_true rfl) (Nat.le_of_ble_eq_true rfl) (Nat.le_of_ble_eq_true rfl) (Nat.le_of_ble_eq_true rfl) (Nat.le_of_ble_eq_true rfl)

set_option maxHeartbeats 4000000 in
set_option maxRecDepth 100000 in
theorem c_X4_setBad (l : Launch) (hfl : l.stackTraces = false) (D : va_G) (Z : Nat → Nat) (N0 : Nat) (g : T3) (ad : T2) (x y : Int32) (b : Nat) (hb1 : b ≤ 1) : vx_Met l yX4_setBad wsX4_setBad ({ frames := 9, cells := 3, slots := 18, locals := 420 } : Room) (PC D Z N0 g ad [.ref (ad 0 0), .int (x), .int (y), .int (nI (b))]) (QI D Z N0 ad (fun (r : Int32) (g1 : T3) => Fr g g1 ∧ (∃ i s, i < g 3 0 2 ∧ x = nI i ∧ s < 2 ∧ y = nI s ∧ ¬ g 11 i s = 0 ∧ r = nI (g 12 (2 * i + s) 3) ∧ g1 = up g 12 (2 * i + s) 3 b))) (QX D Z N0 g ad (fun E => (E = "java/lang/IndexOutOfBoundsException" ∧ (¬ Ix (g 3 0 2) x ∨ ¬ Ix 2 y)) ∨ (E = nx_R ∧ ∃ i s, i < g 3 0 2 ∧ x = nI i ∧ s < 2 ∧ y = nI s ∧ g 11 i s = 0))) 3 18 (AA N0) := by
  refine vx_ofW (cc := cX4_setBad) (maxL := 6) (ret := (some .boolean)) (by decide) rfl ?_
  intro pP eP sP mP args below meth cP s₁ B hmlP hnt hvP
  obtain ⟨rfl, hW, hC⟩ := hvP
  have hx := B.exec
  have hb := B.bytes
  have hr := B.returns
  have hts := atoms_spec (ws := wsX4_setBad) B.pre
  have hown : sP.vm.findClass RX4 = some mP.cls := findClass_of_methodNamed B.named
  have hlocks := B.notSynchronized
  have i_X0 : ∀ w ∈ wsX00, w ∈ wsX4_setBad := (fun _ h => List.mem_cons_of_mem _ (List.mem_append_left _ (List.mem_append_left _ (List.mem_append_left _ (List.mem_append_left _ (List.mem_append_left _ (List.mem_append_right _ h)))))))
  have k_98 : Cond.fieldLink RX4 98 "StartChain$Image" "isBad" "Z" ∈ wsX4_setBad := by decide +kernel
  have M : Mx pP mP cP cX4_setBad 6 sP ([.ref (ad 0 0), .int (x), .int (y), .int (nI (b))] : List Value).toArray wsX4_setBad RX4 D Z N0 := ⟨⟨hx, hb, hmlP, hown, hts⟩, hC⟩
  have hf : Fr g g := Fr.rf g
  have hS : va_S (AA N0) sP.heap sP.heap [] := va_S.rf
  have hl := lv_entry ([.ref (ad 0 0), .int (x), .int (y), .int (nI (b))]) (n := 6) (Nat.le_of_ble_eq_true rfl)
  rw [lg_entry_eq]
  generalize (lg_sl ([.ref (ad 0 0), .int (x), .int (y), .int (nI (b))]) ++ List.replicate (6 - (lg_sl ([.ref (ad 0 0), .int (x), .int (y), .int (nI (b))])).length) Slot.unset).toArray = ls at hl ⊢
  have hl : lv_has ls 6 [(0, .ref (ad 0 0)), (1, .int (x)), (2, .int (y)), (3, .int (nI (b)))] := hl
  refine lv_aload_n hx hb dX4_setBad_0 rfl (lv_at hl 0 rfl) ?_
  refine lv_iload_n hx hb dX4_setBad_1 rfl (lv_at hl 1 rfl) ?_
  refine lv_iload_n hx hb dX4_setBad_2 rfl (lv_at hl 2 rfl) ?_
  refine k_xr (k_xV (As := [.int (x), .int (y)]) (rest := []) M hW hS (c_X4_imageAt l hfl D Z N0 g ad (x) (y)) (cwV 2 hts gX4_setBad_X4_imageAt rfl rfl rfl (by decide +kernel) ⟨Nat.le_of_ble_eq_true rfl, Nat.le_of_ble_eq_true rfl⟩) (r_recv M.2 hW 0 0 (lv0 _) rfl rfl) rfl hl.1 rfl (Nat.le_of_ble_eq_true rfl) dX4_setBad_3 ⟨Nat.le_of_ble_eq_true rfl, Nat.le_of_ble_eq_true rfl⟩) hS (fun E ce q9 H locs hp hW hS hq9 => ?_) (fun r2_z g1_z H locs hp hW hS => ?_)
  · exact k_out hp hW hS hq9 hnt hlocks (Nat.le_of_ble_eq_true rfl) (Nat.le_of_ble_eq_true rfl)
  · obtain ⟨hf1, hp⟩ := hp
    have hf : Fr g g1_z := hf.trans hf1
    obtain ⟨i3_z, s4_z, hi3_z, hxe, hs4_z, hye, hne, hre, hg⟩ := hp
    subst hg
    subst hxe
    subst hye
    subst hre
    have hl12 : lv g 12 (2 * i3_z + s4_z) := lv12 (Nat.lt_of_lt_of_le hi3_z (hW.2.2.2 0 (by decide)).1) hs4_z hne
    refine lv_astore (lv' := [(4, .ref (ad 12 (2 * i3_z + s4_z))), (0, .ref (ad 0 0)), (1, .int (nI (i3_z))), (2, .int (nI (s4_z))), (3, .int (nI (b)))]) hx hb dX4_setBad_6 hl (by decide) rfl (fun ls hl => ?_)
    refine lv_aload hx hb dX4_setBad_8 (lv_at hl 0 rfl) ?_
    have b5_z : g 12 (2 * i3_z + s4_z) 3 ≤ 1 := hW.2.2.1.le 12 (2 * i3_z + s4_z) 3 0 rfl
    refine r_get M hW 12 (2 * i3_z + s4_z) (hf.lv hl12) (v := .int (nI (g 12 (2 * i3_z + s4_z) 3))) rfl rfl i_X0 3 (by decide) k_98 (fun _ h9 => h9) rfl dX4_setBad_10 ?_
    refine lv_istore (lv' := [(5, .int (nI (g 12 (2 * i3_z + s4_z) 3))), (4, .ref (ad 12 (2 * i3_z + s4_z))), (0, .ref (ad 0 0)), (1, .int (nI (i3_z))), (2, .int (nI (s4_z))), (3, .int (nI (b)))]) hx hb dX4_setBad_13 hl (by decide) rfl (fun ls hl => ?_)
    refine lv_aload hx hb dX4_setBad_15 (lv_at hl 1 rfl) ?_
    refine lv_iload_n hx hb dX4_setBad_17 rfl (lv_at hl 5 rfl) ?_
    refine r_put M hW hS 12 (2 * i3_z + s4_z) (hf.lv hl12) rfl rfl i_X0 tyX0 tyX0_ok nmX0 3 (by decide) k_98 (fun _ h9 => h9) rfl (ty := .boolean) (by decide +kernel) (nar_b hb1) (fit_b hb1) (Nat.le_of_ble_eq_true rfl) rfl rfl (Or.inr hb1) dX4_setBad_18 (fun H locs hW hS => ?_)
    obtain ⟨g6_z, eg6_z⟩ : ∃ z, z = up g 12 (2 * i3_z + s4_z) 3 b := ⟨_, rfl⟩
    rw [← eg6_z] at hW
    have hf : Fr g g6_z := by rw [eg6_z]; exact hf.up rfl
    refine lv_iload hx hb dX4_setBad_21 (lv_at hl 0 rfl) ?_
    refine vx_ret ?_
    refine W.widen (k := 3) (n := 18) (Nat.le_of_ble_eq_true rfl) (Nat.le_of_ble_eq_true rfl) ?_
    -- path 1
    exact W.zret (v := nI (g 12 (2 * i3_z + s4_z) 3)) (ty := .boolean) hx hb hr (nar_b b5_z) (fun t ht hW9 => ⟨⟨nI (g 12 (2 * i3_z + s4_z) 3), g6_z, rfl, ⟨hf, ⟨i3_z, s4_z, hi3_z, rfl, hs4_z, rfl, hne, rfl, eg6_z⟩⟩, (show Wd D Z N0 g6_z ad t.heap by rw [ht]; exact hW)⟩, hS.F ht⟩) hS.2.2 dX4_setBad_23

set_option maxHeartbeats 4000000 in
set_option maxRecDepth 100000 in
theorem c_X4_version (l : Launch) (hfl : l.stackTraces = false) (D : va_G) (Z : Nat → Nat) (N0 : Nat) (g : T3) (ad : T2) (x y : Int32) : vx_Met l yX4_version wsX4_version ({ frames := 9, cells := 3, slots := 18, locals := 420 } : Room) (PC D Z N0 g ad [.ref (ad 0 0), .int (x), .int (y)]) (QI D Z N0 ad (fun (r : Int32) (g1 : T3) => Fr g g1 ∧ (∃ i s, i < g 3 0 2 ∧ x = nI i ∧ s < 2 ∧ y = nI s ∧ ¬ g 11 i s = 0 ∧ r = nI (g 12 (2 * i + s) 1) ∧ g = g1))) (QX D Z N0 g ad (fun E => (E = "java/lang/IndexOutOfBoundsException" ∧ (¬ Ix (g 3 0 2) x ∨ ¬ Ix 2 y)) ∨ (E = nx_R ∧ ∃ i s, i < g 3 0 2 ∧ x = nI i ∧ s < 2 ∧ y = nI s ∧ g 11 i s = 0))) 3 18 (AA N0) := by
  refine vx_ofW (cc := cX4_version) (maxL := 3) (ret := (some .int)) (by decide) rfl ?_
  intro pP eP sP mP args below meth cP s₁ B hmlP hnt hvP
  obtain ⟨rfl, hW, hC⟩ := hvP
  have hx := B.exec
  have hb := B.bytes
  have hr := B.returns
  have hts := atoms_spec (ws := wsX4_version) B.pre
  have hown : sP.vm.findClass RX4 = some mP.cls := findClass_of_methodNamed B.named
  have hlocks := B.notSynchronized
  have i_X0 : ∀ w ∈ wsX00, w ∈ wsX4_version := (fun _ h => List.mem_cons_of_mem _ (List.mem_append_left _ (List.mem_append_left _ (List.mem_append_left _ (List.mem_append_left _ (List.mem_append_left _ (List.mem_append_right _ h)))))))
  have k_102 : Cond.fieldLink RX4 102 "StartChain$Image" "version" "I" ∈ wsX4_version := by decide +kernel
  have M : Mx pP mP cP cX4_version 3 sP ([.ref (ad 0 0), .int (x), .int (y)] : List Value).toArray wsX4_version RX4 D Z N0 := ⟨⟨hx, hb, hmlP, hown, hts⟩, hC⟩
  have hf : Fr g g := Fr.rf g
  have hS : va_S (AA N0) sP.heap sP.heap [] := va_S.rf
  have hl := lv_entry ([.ref (ad 0 0), .int (x), .int (y)]) (n := 3) (Nat.le_of_ble_eq_true rfl)
  rw [lg_entry_eq]
  generalize (lg_sl ([.ref (ad 0 0), .int (x), .int (y)]) ++ List.replicate (3 - (lg_sl ([.ref (ad 0 0), .int (x), .int (y)])).length) Slot.unset).toArray = ls at hl ⊢
  have hl : lv_has ls 3 [(0, .ref (ad 0 0)), (1, .int (x)), (2, .int (y))] := hl
  refine lv_aload_n hx hb dX4_version_0 rfl (lv_at hl 0 rfl) ?_
  refine lv_iload_n hx hb dX4_version_1 rfl (lv_at hl 1 rfl) ?_
  refine lv_iload_n hx hb dX4_version_2 rfl (lv_at hl 2 rfl) ?_
  refine k_xr (k_xV (As := [.int (x), .int (y)]) (rest := []) M hW hS (c_X4_imageAt l hfl D Z N0 g ad (x) (y)) (cwV 2 hts gX4_version_X4_imageAt rfl rfl rfl (by decide +kernel) ⟨Nat.le_of_ble_eq_true rfl, Nat.le_of_ble_eq_true rfl⟩) (r_recv M.2 hW 0 0 (lv0 _) rfl rfl) rfl hl.1 rfl (Nat.le_of_ble_eq_true rfl) dX4_version_3 ⟨Nat.le_of_ble_eq_true rfl, Nat.le_of_ble_eq_true rfl⟩) hS (fun E ce q9 H locs hp hW hS hq9 => ?_) (fun r2_z g1_z H locs hp hW hS => ?_)
  · exact k_out hp hW hS hq9 hnt hlocks (Nat.le_of_ble_eq_true rfl) (Nat.le_of_ble_eq_true rfl)
  · obtain ⟨hf1, hp⟩ := hp
    have hf : Fr g g1_z := hf.trans hf1
    obtain ⟨i3_z, s4_z, hi3_z, hxe, hs4_z, hye, hne, hre, hg⟩ := hp
    subst hg
    subst hxe
    subst hye
    subst hre
    have hl12 : lv g 12 (2 * i3_z + s4_z) := lv12 (Nat.lt_of_lt_of_le hi3_z (hW.2.2.2 0 (by decide)).1) hs4_z hne
    have b5_z : g 12 (2 * i3_z + s4_z) 1 ≤ 99 := hW.2.2.1.le 12 (2 * i3_z + s4_z) 1 98 rfl
    refine r_get M hW 12 (2 * i3_z + s4_z) (hf.lv hl12) (v := .int (nI (g 12 (2 * i3_z + s4_z) 1))) rfl rfl i_X0 1 (by decide) k_102 (fun _ h9 => h9) rfl dX4_version_6 ?_
    refine vx_ret ?_
    refine W.widen (k := 3) (n := 18) (Nat.le_of_ble_eq_true rfl) (Nat.le_of_ble_eq_true rfl) ?_
    -- path 1
    exact W.iret (v := nI (g 12 (2 * i3_z + s4_z) 1)) hx hb hr (fun t ht hW9 => ⟨⟨nI (g 12 (2 * i3_z + s4_z) 1), g, rfl, ⟨hf, ⟨i3_z, s4_z, hi3_z, rfl, hs4_z, rfl, hne, rfl, rfl⟩⟩, (show Wd D Z N0 g ad t.heap by rw [ht]; exact hW)⟩, hS.F ht⟩) hS.2.2 dX4_version_9

set_option maxHeartbeats 4000000 in
set_option maxRecDepth 100000 in
theorem c_X4_active (l : Launch) (hfl : l.stackTraces = false) (D : va_G) (Z : Nat → Nat) (N0 : Nat) (g : T3) (ad : T2) (x : Int32) : vx_Met l yX4_active wsX4_active ({ frames := 7, cells := 1, slots := 6, locals := 340 } : Room) (PC D Z N0 g ad [.ref (ad 0 0), .int (x)]) (QI D Z N0 ad (fun (r : Int32) (g1 : T3) => Fr g g1 ∧ (∃ i, i < g 3 0 2 ∧ x = nI i ∧ r = nI (g 10 i 2) ∧ g = g1))) (QX D Z N0 g ad (fun E => E = "java/lang/IndexOutOfBoundsException" ∧ ¬ Ix (g 3 0 2) x)) 1 6 (AA N0) := by
  refine vx_ofW (cc := cX4_active) (maxL := 2) (ret := (some .int)) (by decide) rfl ?_
  intro pP eP sP mP args below meth cP s₁ B hmlP hnt hvP
  obtain ⟨rfl, hW, hC⟩ := hvP
  have hx := B.exec
  have hb := B.bytes
  have hr := B.returns
  have hts := atoms_spec (ws := wsX4_active) B.pre
  have hown : sP.vm.findClass RX4 = some mP.cls := findClass_of_methodNamed B.named
  have hlocks := B.notSynchronized
  have i_X3 : ∀ w ∈ wsX30, w ∈ wsX4_active := (fun _ h => List.mem_cons_of_mem _ (List.mem_append_left _ (List.mem_append_left _ (List.mem_append_left _ (List.mem_append_right _ h)))))
  have k_105 : Cond.fieldLink RX4 105 "StartChain$Stage" "active" "I" ∈ wsX4_active := by decide +kernel
  have M : Mx pP mP cP cX4_active 2 sP ([.ref (ad 0 0), .int (x)] : List Value).toArray wsX4_active RX4 D Z N0 := ⟨⟨hx, hb, hmlP, hown, hts⟩, hC⟩
  have hf : Fr g g := Fr.rf g
  have hS : va_S (AA N0) sP.heap sP.heap [] := va_S.rf
  have hl := lv_entry ([.ref (ad 0 0), .int (x)]) (n := 2) (Nat.le_of_ble_eq_true rfl)
  rw [lg_entry_eq]
  generalize (lg_sl ([.ref (ad 0 0), .int (x)]) ++ List.replicate (2 - (lg_sl ([.ref (ad 0 0), .int (x)])).length) Slot.unset).toArray = ls at hl ⊢
  have hl : lv_has ls 2 [(0, .ref (ad 0 0)), (1, .int (x))] := hl
  refine lv_aload_n hx hb dX4_active_0 rfl (lv_at hl 0 rfl) ?_
  refine lv_iload_n hx hb dX4_active_1 rfl (lv_at hl 1 rfl) ?_
  refine k_xr (k_xV (As := [.int (x)]) (rest := []) M hW hS (c_X4_stageAt l hfl D Z N0 g ad (x)) (cwV 1 hts gX4_active_X4_stageAt rfl rfl rfl (by decide +kernel) ⟨Nat.le_of_ble_eq_true rfl, Nat.le_of_ble_eq_true rfl⟩) (r_recv M.2 hW 0 0 (lv0 _) rfl rfl) rfl hl.1 rfl (Nat.le_of_ble_eq_true rfl) dX4_active_2 ⟨Nat.le_of_ble_eq_true rfl, Nat.le_of_ble_eq_true rfl⟩) hS (fun E ce q9 H locs hp hW hS hq9 => ?_) (fun r2_z g1_z H locs hp hW hS => ?_)
  · exact k_out hp hW hS hq9 hnt hlocks (Nat.le_of_ble_eq_true rfl) (Nat.le_of_ble_eq_true rfl)
  · obtain ⟨hf1, hp⟩ := hp
    have hf : Fr g g1_z := hf.trans hf1
    obtain ⟨i3_z, hi3_z, hxe, hre, hg⟩ := hp
    subst hg
    subst hxe
    subst hre
    have hli3_z : lv g 10 i3_z := Nat.lt_of_lt_of_le hi3_z (hW.2.2.2 0 (by decide)).1
    have b4_z : g 10 i3_z 2 ≤ 1 := hW.2.2.1.le 10 i3_z 2 0 rfl
    refine r_get M hW 10 i3_z (hf.lv hli3_z) (v := .int (nI (g 10 i3_z 2))) rfl rfl i_X3 2 (by decide) k_105 (fun _ h9 => h9) rfl dX4_active_5 ?_
    refine vx_ret ?_
    refine W.widen (k := 1) (n := 6) (Nat.le_of_ble_eq_true rfl) (Nat.le_of_ble_eq_true rfl) ?_
    -- path 1
    exact W.iret (v := nI (g 10 i3_z 2)) hx hb hr (fun t ht hW9 => ⟨⟨nI (g 10 i3_z 2), g, rfl, ⟨hf, ⟨i3_z, hi3_z, rfl, rfl, rfl⟩⟩, (show Wd D Z N0 g ad t.heap by rw [ht]; exact hW)⟩, hS.F ht⟩) hS.2.2 dX4_active_8

set_option maxHeartbeats 4000000 in
set_option maxRecDepth 100000 in
theorem c_X4_counter (l : Launch) (hfl : l.stackTraces = false) (D : va_G) (Z : Nat → Nat) (N0 : Nat) (g : T3) (ad : T2) (x : Int32) : vx_Met l yX4_counter wsX4_counter ({ frames := 7, cells := 1, slots := 6, locals := 340 } : Room) (PC D Z N0 g ad [.ref (ad 0 0), .int (x)]) (QI D Z N0 ad (fun (r : Int32) (g1 : T3) => Fr g g1 ∧ (∃ i, i < g 3 0 2 ∧ x = nI i ∧ r = nI (g 10 i 3) ∧ g = g1))) (QX D Z N0 g ad (fun E => E = "java/lang/IndexOutOfBoundsException" ∧ ¬ Ix (g 3 0 2) x)) 1 6 (AA N0) := by
  refine vx_ofW (cc := cX4_counter) (maxL := 2) (ret := (some .int)) (by decide) rfl ?_
  intro pP eP sP mP args below meth cP s₁ B hmlP hnt hvP
  obtain ⟨rfl, hW, hC⟩ := hvP
  have hx := B.exec
  have hb := B.bytes
  have hr := B.returns
  have hts := atoms_spec (ws := wsX4_counter) B.pre
  have hown : sP.vm.findClass RX4 = some mP.cls := findClass_of_methodNamed B.named
  have hlocks := B.notSynchronized
  have i_X3 : ∀ w ∈ wsX30, w ∈ wsX4_counter := (fun _ h => List.mem_cons_of_mem _ (List.mem_append_left _ (List.mem_append_left _ (List.mem_append_left _ (List.mem_append_right _ h)))))
  have k_116 : Cond.fieldLink RX4 116 "StartChain$Stage" "counter" "I" ∈ wsX4_counter := by decide +kernel
  have M : Mx pP mP cP cX4_counter 2 sP ([.ref (ad 0 0), .int (x)] : List Value).toArray wsX4_counter RX4 D Z N0 := ⟨⟨hx, hb, hmlP, hown, hts⟩, hC⟩
  have hf : Fr g g := Fr.rf g
  have hS : va_S (AA N0) sP.heap sP.heap [] := va_S.rf
  have hl := lv_entry ([.ref (ad 0 0), .int (x)]) (n := 2) (Nat.le_of_ble_eq_true rfl)
  rw [lg_entry_eq]
  generalize (lg_sl ([.ref (ad 0 0), .int (x)]) ++ List.replicate (2 - (lg_sl ([.ref (ad 0 0), .int (x)])).length) Slot.unset).toArray = ls at hl ⊢
  have hl : lv_has ls 2 [(0, .ref (ad 0 0)), (1, .int (x))] := hl
  refine lv_aload_n hx hb dX4_counter_0 rfl (lv_at hl 0 rfl) ?_
  refine lv_iload_n hx hb dX4_counter_1 rfl (lv_at hl 1 rfl) ?_
  refine k_xr (k_xV (As := [.int (x)]) (rest := []) M hW hS (c_X4_stageAt l hfl D Z N0 g ad (x)) (cwV 1 hts gX4_counter_X4_stageAt rfl rfl rfl (by decide +kernel) ⟨Nat.le_of_ble_eq_true rfl, Nat.le_of_ble_eq_true rfl⟩) (r_recv M.2 hW 0 0 (lv0 _) rfl rfl) rfl hl.1 rfl (Nat.le_of_ble_eq_true rfl) dX4_counter_2 ⟨Nat.le_of_ble_eq_true rfl, Nat.le_of_ble_eq_true rfl⟩) hS (fun E ce q9 H locs hp hW hS hq9 => ?_) (fun r2_z g1_z H locs hp hW hS => ?_)
  · exact k_out hp hW hS hq9 hnt hlocks (Nat.le_of_ble_eq_true rfl) (Nat.le_of_ble_eq_true rfl)
  · obtain ⟨hf1, hp⟩ := hp
    have hf : Fr g g1_z := hf.trans hf1
    obtain ⟨i3_z, hi3_z, hxe, hre, hg⟩ := hp
    subst hg
    subst hxe
    subst hre
    have hli3_z : lv g 10 i3_z := Nat.lt_of_lt_of_le hi3_z (hW.2.2.2 0 (by decide)).1
    have b4_z : g 10 i3_z 3 ≤ 99 := hW.2.2.1.le 10 i3_z 3 98 rfl
    refine r_get M hW 10 i3_z (hf.lv hli3_z) (v := .int (nI (g 10 i3_z 3))) rfl rfl i_X3 3 (by decide) k_116 (fun _ h9 => h9) rfl dX4_counter_5 ?_
    refine vx_ret ?_
    refine W.widen (k := 1) (n := 6) (Nat.le_of_ble_eq_true rfl) (Nat.le_of_ble_eq_true rfl) ?_
    -- path 1
    exact W.iret (v := nI (g 10 i3_z 3)) hx hb hr (fun t ht hW9 => ⟨⟨nI (g 10 i3_z 3), g, rfl, ⟨hf, ⟨i3_z, hi3_z, rfl, rfl, rfl⟩⟩, (show Wd D Z N0 g ad t.heap by rw [ht]; exact hW)⟩, hS.F ht⟩) hS.2.2 dX4_counter_8

set_option maxHeartbeats 4000000 in
set_option maxRecDepth 100000 in
theorem c_X4_reason (l : Launch) (hfl : l.stackTraces = false) (D : va_G) (Z : Nat → Nat) (N0 : Nat) (g : T3) (ad : T2) (x y : Int32) : vx_Met l yX4_reason wsX4_reason ({ frames := 8, cells := 2, slots := 12, locals := 380 } : Room) (PC D Z N0 g ad [.ref (ad 0 0), .int (x), .int (y)]) (QI D Z N0 ad (fun (r : Int32) (g1 : T3) => Fr g g1 ∧ (∃ i s, i < g 3 0 2 ∧ x = nI i ∧ s < 2 ∧ y = nI s ∧ r = nI (jg g i s) ∧ g = g1))) (QX D Z N0 g ad (fun E => E = "java/lang/IndexOutOfBoundsException" ∧ (¬ Ix (g 3 0 2) x ∨ ¬ Ix 2 y))) 2 12 (AA N0) := by
  refine vx_ofW (cc := cX4_reason) (maxL := 3) (ret := (some .char)) (by decide) rfl ?_
  intro pP eP sP mP args below meth cP s₁ B hmlP hnt hvP
  obtain ⟨rfl, hW, hC⟩ := hvP
  have hx := B.exec
  have hb := B.bytes
  have hr := B.returns
  have hts := atoms_spec (ws := wsX4_reason) B.pre
  have hown : sP.vm.findClass RX4 = some mP.cls := findClass_of_methodNamed B.named
  have hlocks := B.notSynchronized
  have M : Mx pP mP cP cX4_reason 3 sP ([.ref (ad 0 0), .int (x), .int (y)] : List Value).toArray wsX4_reason RX4 D Z N0 := ⟨⟨hx, hb, hmlP, hown, hts⟩, hC⟩
  have hf : Fr g g := Fr.rf g
  have hS : va_S (AA N0) sP.heap sP.heap [] := va_S.rf
  have hl := lv_entry ([.ref (ad 0 0), .int (x), .int (y)]) (n := 3) (Nat.le_of_ble_eq_true rfl)
  rw [lg_entry_eq]
  generalize (lg_sl ([.ref (ad 0 0), .int (x), .int (y)]) ++ List.replicate (3 - (lg_sl ([.ref (ad 0 0), .int (x), .int (y)])).length) Slot.unset).toArray = ls at hl ⊢
  have hl : lv_has ls 3 [(0, .ref (ad 0 0)), (1, .int (x)), (2, .int (y))] := hl
  refine lv_aload_n hx hb dX4_reason_0 rfl (lv_at hl 0 rfl) ?_
  refine lv_aload_n hx hb dX4_reason_1 rfl (lv_at hl 0 rfl) ?_
  refine lv_iload_n hx hb dX4_reason_2 rfl (lv_at hl 1 rfl) ?_
  refine lv_iload_n hx hb dX4_reason_3 rfl (lv_at hl 2 rfl) ?_
  refine k_xr (k_xV (As := [.int (x), .int (y)]) (rest := [.ref (ad 0 0)]) M hW hS (c_X4_stageWithSlot l hfl D Z N0 g ad (x) (y)) (cwV 2 hts gX4_reason_X4_stageWithSlot rfl rfl rfl (by decide +kernel) ⟨Nat.le_of_ble_eq_true rfl, Nat.le_of_ble_eq_true rfl⟩) (r_recv M.2 hW 0 0 (lv0 _) rfl rfl) rfl hl.1 rfl (Nat.le_of_ble_eq_true rfl) dX4_reason_4 ⟨Nat.le_of_ble_eq_true rfl, Nat.le_of_ble_eq_true rfl⟩) hS (fun E ce q9 H locs hp hW hS hq9 => ?_) (fun r2_z g1_z H locs hp hW hS => ?_)
  · exact k_out hp hW hS hq9 hnt hlocks (Nat.le_of_ble_eq_true rfl) (Nat.le_of_ble_eq_true rfl)
  · obtain ⟨hf1, hp⟩ := hp
    have hf : Fr g g1_z := hf.trans hf1
    obtain ⟨i3_z, s4_z, hi3_z, hxe, hs4_z, hye, hre, hg⟩ := hp
    subst hg
    subst hxe
    subst hye
    subst hre
    have hli3_z : lv g 10 i3_z := Nat.lt_of_lt_of_le hi3_z (hW.2.2.2 0 (by decide)).1
    refine lv_iload_n hx hb dX4_reason_7 rfl (lv_at hl 2 rfl) ?_
    refine k_ci (k_rV (As := [.ref (ad 10 i3_z), .int (nI (s4_z))]) (rest := []) M hW hS (c_X4_judge l D Z N0 g ad i3_z s4_z (hf.lv hli3_z) (Nat.lt_of_le_of_lt (Nat.le_of_lt_succ hs4_z) (by decide))) (cwV 2 hts gX4_reason_X4_judge rfl rfl rfl (by decide +kernel) ⟨Nat.le_of_ble_eq_true rfl, Nat.le_of_ble_eq_true rfl⟩) (r_recv M.2 hW 0 0 (lv0 _) rfl rfl) rfl hl.1 rfl (Nat.le_of_ble_eq_true rfl) dX4_reason_8 ⟨Nat.le_of_ble_eq_true rfl, Nat.le_of_ble_eq_true rfl⟩) hS (fun r6_z g5_z H locs hp hW hS => ?_)
    obtain ⟨hf1, hp⟩ := hp
    have hf : Fr g g5_z := hf.trans hf1
    obtain ⟨rfl, hg⟩ := hp
    subst hg
    refine vx_ret ?_
    refine W.widen (k := 2) (n := 12) (Nat.le_of_ble_eq_true rfl) (Nat.le_of_ble_eq_true rfl) ?_
    -- path 1
    exact W.zret (v := nI (jg g i3_z s4_z)) (ty := .char) hx hb hr (nar_c (jg_le g i3_z s4_z)) (fun t ht hW9 => ⟨⟨nI (jg g i3_z s4_z), g, rfl, ⟨hf, ⟨i3_z, s4_z, hi3_z, rfl, hs4_z, rfl, rfl, rfl⟩⟩, (show Wd D Z N0 g ad t.heap by rw [ht]; exact hW)⟩, hS.F ht⟩) hS.2.2 dX4_reason_11

set_option maxHeartbeats 4000000 in
set_option maxRecDepth 100000 in
theorem c_X4_start (l : Launch) (hfl : l.stackTraces = false) (D : va_G) (Z : Nat → Nat) (N0 : Nat) (g : T3) (ad : T2) : vx_Met l yX4_start wsX4_start ({ frames := 6, cells := 1, slots := 6, locals := 300 } : Room) (PC D Z N0 g ad [.ref (ad 0 0)]) (QI D Z N0 ad (fun (r : Int32) (g1 : T3) => Fr g g1 ∧ (g 0 0 6 = 111 ∧ ¬ g 3 0 2 = 0 ∧ r = nI (if stF g 5 0 5 = stF g 3 0 2 then 1 else 0) ∧ g1 = up (stF g) 0 0 6 (if stF g 5 0 5 = stF g 3 0 2 then 114 else 104)))) (QX D Z N0 g ad (fun E => E = "java/lang/IllegalStateException" ∧ (¬ g 0 0 6 = 111 ∨ g 3 0 2 = 0))) 1 6 (AA N0) := by
  refine vx_ofW (cc := cX4_start) (maxL := 1) (ret := (some .boolean)) (by decide) rfl ?_
  intro pP eP sP mP args below meth cP s₁ B hmlP hnt hvP
  obtain ⟨rfl, hW, hC⟩ := hvP
  have hx := B.exec
  have hb := B.bytes
  have hr := B.returns
  have hts := atoms_spec (ws := wsX4_start) B.pre
  have hown : sP.vm.findClass RX4 = some mP.cls := findClass_of_methodNamed B.named
  have hlocks := B.notSynchronized
  have i_X4 : ∀ w ∈ wsX40, w ∈ wsX4_start := (fun _ h => List.mem_cons_of_mem _ (List.mem_append_left _ (List.mem_append_left _ (List.mem_append_left _ (List.mem_append_left _ (List.mem_append_left _ (List.mem_append_left _ (List.mem_append_right _ h))))))))
  have k_36 : Cond.fieldLink RX4 36 "StartChain" "state" "C" ∈ wsX4_start := by decide +kernel
  have w_Cond_classLink_RX4_65__java_lang_IllegalStateException_ : Cond.classLink RX4 65 "java/lang/IllegalStateException" ∈ wsX4_start := by decide +kernel
  have w_Cond_initialized__java_lang_IllegalStateException_ : Cond.initialized "java/lang/IllegalStateException" ∈ wsX4_start := by decide +kernel
  have s_ISE : ∀ w ∈ (vx_atS RX4 69 "java/lang/IllegalStateException" thN).filter goodWord, w ∈ wsX4_start := (fun _ h => List.mem_cons_of_mem _ (List.mem_append_left _ (List.mem_append_right _ h)))
  have k_16 : Cond.fieldLink RX4 16 "StartChain" "stages" "Ljava/util/ArrayList;" ∈ wsX4_start := by decide +kernel
  have k_29 : Cond.fieldLink RX4 29 "StartChain" "lastStart" "LStartChain$Pass;" ∈ wsX4_start := by decide +kernel
  have k_40 : Cond.fieldLink RX4 40 "StartChain" "fallbackCount" "I" ∈ wsX4_start := by decide +kernel
  have i_X1 : ∀ w ∈ wsX10, w ∈ wsX4_start := (fun _ h => List.mem_cons_of_mem _ (List.mem_append_left _ (List.mem_append_left _ (List.mem_append_left _ (List.mem_append_left _ (List.mem_append_left _ (List.mem_append_right _ h)))))))
  have k_129 : Cond.fieldLink RX4 129 "StartChain$Pass" "fallbackCount" "I" ∈ wsX4_start := by decide +kernel
  have M : Mx pP mP cP cX4_start 1 sP ([.ref (ad 0 0)] : List Value).toArray wsX4_start RX4 D Z N0 := ⟨⟨hx, hb, hmlP, hown, hts⟩, hC⟩
  have hf : Fr g g := Fr.rf g
  have hS : va_S (AA N0) sP.heap sP.heap [] := va_S.rf
  have hl := lv_entry ([.ref (ad 0 0)]) (n := 1) (Nat.le_of_ble_eq_true rfl)
  rw [lg_entry_eq]
  generalize (lg_sl ([.ref (ad 0 0)]) ++ List.replicate (1 - (lg_sl ([.ref (ad 0 0)])).length) Slot.unset).toArray = ls at hl ⊢
  have hl : lv_has ls 1 [(0, .ref (ad 0 0))] := hl
  refine lv_aload_n hx hb dX4_start_0 rfl (lv_at hl 0 rfl) ?_
  have b1_z : g 0 0 6 ≤ 127 := hW.2.2.1.le 0 0 6 126 rfl
  refine r_get M hW 0 0 (lv0 _) (v := .int (nI (g 0 0 6))) rfl rfl i_X4 6 (by decide) k_36 (fun _ h9 => h9) rfl dX4_start_1 ?_
  refine lv_bipush (v := nI 111) hx hb dX4_start_4 (by decide) ?_
  refine n_icmp_ne (tgt := 19) hx hb (Nat.lt_of_le_of_lt b1_z (by decide)) (by decide) dX4_start_6 (by decide) (fun c2_z => ?_) (fun c2_z => ?_)
  · exact k_throw (cls := "java/lang/IllegalStateException") (text := "not off, or no stages") M hfl hW hS (by decide +kernel) (by decide +kernel) (by decide +kernel) g_ISE n_ISE w_Cond_classLink_RX4_65__java_lang_IllegalStateException_ w_Cond_initialized__java_lang_IllegalStateException_ s_ISE hl.1 hnt hlocks ⟨rfl, Or.inl c2_z⟩ dX4_start_19 dX4_start_22 dX4_start_23 dX4_start_25 dX4_start_28 (Nat.le_of_ble_eq_true rfl) (Nat.le_of_ble_eq_true rfl) (Nat.le_of_ble_eq_true rfl) (Nat.le_of_ble_eq_true rfl) (Nat.le_of_ble_eq_true rfl) (Nat.le_of_ble_eq_true rfl)
  · refine lv_aload_n hx hb dX4_start_9 rfl (lv_at hl 0 rfl) ?_
    refine r_get M hW 0 0 (lv0 _) (v := .ref (ad 3 0)) rfl rfl i_X4 1 (by decide) k_16 (fun _ h9 => h9) rfl dX4_start_10 ?_
    refine k_ci (k_rV (As := []) (rest := []) M hW hS (c_Jx4a65c_isEmpty_aae02 l D Z N0 g ad 0 (by decide)) (cwV 0 hts gX4_start_Jx4a65c_isEmpty_aae02 rfl rfl rfl (by decide +kernel) ⟨Nat.le_of_ble_eq_true rfl, Nat.le_of_ble_eq_true rfl⟩) (r_recv M.2 hW 3 0 (show (0 : Nat) < 2 by decide) rfl rfl) rfl hl.1 rfl (Nat.le_of_ble_eq_true rfl) dX4_start_13 ⟨Nat.le_of_ble_eq_true rfl, Nat.le_of_ble_eq_true rfl⟩) hS (fun r4_z g3_z H locs hp hW hS => ?_)
    obtain ⟨hf1, hp⟩ := hp
    have hf : Fr g g3_z := hf.trans hf1
    obtain ⟨hp, hg⟩ := hp
    subst hg
    rcases hp with ⟨rfl, c5_z⟩ | ⟨rfl, c5_z⟩
    · refine n_if_eq (tgt := 29) hx hb (by decide) dX4_start_16 (by decide) (fun h9 => absurd h9 (by decide)) (fun _ => ?_)
      exact k_throw (cls := "java/lang/IllegalStateException") (text := "not off, or no stages") M hfl hW hS (by decide +kernel) (by decide +kernel) (by decide +kernel) g_ISE n_ISE w_Cond_classLink_RX4_65__java_lang_IllegalStateException_ w_Cond_initialized__java_lang_IllegalStateException_ s_ISE hl.1 hnt hlocks ⟨rfl, Or.inr c5_z⟩ dX4_start_19 dX4_start_22 dX4_start_23 dX4_start_25 dX4_start_28 (Nat.le_of_ble_eq_true rfl) (Nat.le_of_ble_eq_true rfl) (Nat.le_of_ble_eq_true rfl) (Nat.le_of_ble_eq_true rfl) (Nat.le_of_ble_eq_true rfl) (Nat.le_of_ble_eq_true rfl)
    · refine n_if_eq (tgt := 29) hx hb (by decide) dX4_start_16 (by decide) (fun _ => ?_) (fun h9 => absurd h9 (by decide))
      refine lv_aload_n hx hb dX4_start_29 rfl (lv_at hl 0 rfl) ?_
      refine lv_aload_n hx hb dX4_start_30 rfl (lv_at hl 0 rfl) ?_
      refine r_get M hW 0 0 (lv0 _) (v := .ref (ad 5 0)) rfl rfl i_X4 4 (by decide) k_29 (fun _ h9 => h9) rfl dX4_start_31 ?_
      refine k_cv (k_rV (As := [.ref (ad 5 0)]) (rest := []) M hW hS (c_X4_startInto l D Z N0 g ad 0 (by decide)) (cwV 1 hts gX4_start_X4_startInto rfl rfl rfl (by decide +kernel) ⟨Nat.le_of_ble_eq_true rfl, Nat.le_of_ble_eq_true rfl⟩) (r_recv M.2 hW 0 0 (lv0 _) rfl rfl) rfl hl.1 rfl (Nat.le_of_ble_eq_true rfl) dX4_start_34 ⟨Nat.le_of_ble_eq_true rfl, Nat.le_of_ble_eq_true rfl⟩) hS (fun g8_z H locs hp hW hS => ?_)
      obtain ⟨hf1, hp⟩ := hp
      have hf : Fr g g8_z := hf.trans hf1
      have eg8_z : g8_z = sInto g 0 := hp
      refine lv_aload_n hx hb dX4_start_37 rfl (lv_at hl 0 rfl) ?_
      refine lv_dup hx hb dX4_start_38 rfl ?_
      refine r_get M hW 0 0 (lv0 _) (v := .int (nI (g8_z 0 0 7))) rfl rfl i_X4 7 (by decide) k_40 (fun _ h9 => h9) rfl dX4_start_39 ?_
      refine lv_aload_n hx hb dX4_start_42 rfl (lv_at hl 0 rfl) ?_
      refine r_get M hW 0 0 (lv0 _) (v := .ref (ad 5 0)) rfl rfl i_X4 4 (by decide) k_29 (fun _ h9 => h9) rfl dX4_start_43 ?_
      refine r_get M hW 5 0 (show (0 : Nat) < 2 by decide) (v := .int (nI (g8_z 5 0 6))) rfl rfl i_X1 6 (by decide) k_129 (fun _ h9 => h9) rfl dX4_start_46 ?_
      refine n_iadd hx hb dX4_start_49 ?_
      refine r_put M hW hS 0 0 (lv0 _) rfl rfl i_X4 tyX4 tyX4_ok nmX4 7 (by decide) k_40 (fun _ h9 => h9) rfl (ty := .int) (by decide +kernel) rfl rfl (Nat.le_of_ble_eq_true rfl) rfl rfl (Or.inl rfl) dX4_start_50 (fun H locs hW hS => ?_)
      obtain ⟨g10_z, eg10_z⟩ : ∃ z, z = up g8_z 0 0 7 (g8_z 0 0 7 + g8_z 5 0 6) := ⟨_, rfl⟩
      rw [← eg10_z] at hW
      have hf : Fr g g10_z := by rw [eg10_z]; exact hf.up rfl
      refine lv_aload_n hx hb dX4_start_53 rfl (lv_at hl 0 rfl) ?_
      refine lv_aload_n hx hb dX4_start_54 rfl (lv_at hl 0 rfl) ?_
      refine lv_aload_n hx hb dX4_start_55 rfl (lv_at hl 0 rfl) ?_
      refine r_get M hW 0 0 (lv0 _) (v := .ref (ad 5 0)) rfl rfl i_X4 4 (by decide) k_29 (fun _ h9 => h9) rfl dX4_start_56 ?_
      refine k_ci (k_rV (As := [.ref (ad 5 0)]) (rest := [.ref (ad 0 0)]) M hW hS (c_X4_allRan l D Z N0 g10_z ad 0 (by decide)) (cwV 1 hts gX4_start_X4_allRan rfl rfl rfl (by decide +kernel) ⟨Nat.le_of_ble_eq_true rfl, Nat.le_of_ble_eq_true rfl⟩) (r_recv M.2 hW 0 0 (lv0 _) rfl rfl) rfl hl.1 rfl (Nat.le_of_ble_eq_true rfl) dX4_start_59 ⟨Nat.le_of_ble_eq_true rfl, Nat.le_of_ble_eq_true rfl⟩) hS (fun r12_z g11_z H locs hp hW hS => ?_)
      obtain ⟨hf1, hp⟩ := hp
      have hf : Fr g g11_z := hf.trans hf1
      obtain ⟨hp, hg⟩ := hp
      subst hg
      rcases hp with ⟨rfl, c13_z⟩ | ⟨rfl, c13_z⟩
      · refine n_if_eq (tgt := 70) hx hb (by decide) dX4_start_62 (by decide) (fun h9 => absurd h9 (by decide)) (fun _ => ?_)
        refine lv_bipush (v := nI 114) hx hb dX4_start_65 (by decide) ?_
        refine lv_goto (tgt := 72) hx hb dX4_start_67 (by decide) ?_
        refine r_put M hW hS 0 0 (lv0 _) rfl rfl i_X4 tyX4 tyX4_ok nmX4 6 (by decide) k_36 (fun _ h9 => h9) rfl (ty := .char) (by decide +kernel) (by decide) rfl (Nat.le_of_ble_eq_true rfl) rfl rfl (Or.inr (show 114 ≤ 127 by decide)) dX4_start_72 (fun H locs hW hS => ?_)
        obtain ⟨g15_z, eg15_z⟩ : ∃ z, z = up g10_z 0 0 6 114 := ⟨_, rfl⟩
        rw [← eg15_z] at hW
        have hf : Fr g g15_z := by rw [eg15_z]; exact hf.up rfl
        refine lv_aload_n hx hb dX4_start_75 rfl (lv_at hl 0 rfl) ?_
        have b16_z : g15_z 0 0 6 ≤ 127 := hW.2.2.1.le 0 0 6 126 rfl
        refine r_get M hW 0 0 (lv0 _) (v := .int (nI (g15_z 0 0 6))) rfl rfl i_X4 6 (by decide) k_36 (fun _ h9 => h9) rfl dX4_start_76 ?_
        have q17_z : g15_z 0 0 6 = 114 := by rw [eg15_z]; first | rfl | simp [up_at]
        refine W.eq (g2 := F0 mP 79 ls (.int (nI (114)) :: [])) (congrArg (fun z => F0 mP 79 ls (.int (nI z) :: [])) q17_z) ?_
        refine lv_bipush (v := nI 114) hx hb dX4_start_79 (by decide) ?_
        refine n_icmp_ne (tgt := 88) hx hb (by decide) (by decide) dX4_start_81 (by decide) (fun h9 => absurd h9 (by decide)) (fun _ => ?_)
        refine lv_iconst (v := nI 1) hx hb dX4_start_84 (by decide) ?_
        refine lv_goto (tgt := 89) hx hb dX4_start_85 (by decide) ?_
        refine vx_ret ?_
        refine W.widen (k := 1) (n := 6) (Nat.le_of_ble_eq_true rfl) (Nat.le_of_ble_eq_true rfl) ?_
        -- path 1
        exact W.zret (v := nI (1)) (ty := .boolean) hx hb hr (nar_b (show 1 ≤ 1 by decide)) (fun t ht hW9 => ⟨⟨nI (1), g15_z, rfl, ⟨hf, (by refine ⟨c2_z, c5_z, ?_⟩; subst eg15_z eg10_z eg8_z; unfold stF; rw [if_pos c13_z, if_pos c13_z]; exact ⟨rfl, rfl⟩)⟩, (show Wd D Z N0 g15_z ad t.heap by rw [ht]; exact hW)⟩, hS.F ht⟩) hS.2.2 dX4_start_89
      · refine n_if_eq (tgt := 70) hx hb (by decide) dX4_start_62 (by decide) (fun _ => ?_) (fun h9 => absurd h9 (by decide))
        refine lv_bipush (v := nI 104) hx hb dX4_start_70 (by decide) ?_
        refine r_put M hW hS 0 0 (lv0 _) rfl rfl i_X4 tyX4 tyX4_ok nmX4 6 (by decide) k_36 (fun _ h9 => h9) rfl (ty := .char) (by decide +kernel) (by decide) rfl (Nat.le_of_ble_eq_true rfl) rfl rfl (Or.inr (show 104 ≤ 127 by decide)) dX4_start_72 (fun H locs hW hS => ?_)
        obtain ⟨g20_z, eg20_z⟩ : ∃ z, z = up g10_z 0 0 6 104 := ⟨_, rfl⟩
        rw [← eg20_z] at hW
        have hf : Fr g g20_z := by rw [eg20_z]; exact hf.up rfl
        refine lv_aload_n hx hb dX4_start_75 rfl (lv_at hl 0 rfl) ?_
        have b21_z : g20_z 0 0 6 ≤ 127 := hW.2.2.1.le 0 0 6 126 rfl
        refine r_get M hW 0 0 (lv0 _) (v := .int (nI (g20_z 0 0 6))) rfl rfl i_X4 6 (by decide) k_36 (fun _ h9 => h9) rfl dX4_start_76 ?_
        have q22_z : g20_z 0 0 6 = 104 := by rw [eg20_z]; first | rfl | simp [up_at]
        refine W.eq (g2 := F0 mP 79 ls (.int (nI (104)) :: [])) (congrArg (fun z => F0 mP 79 ls (.int (nI z) :: [])) q22_z) ?_
        refine lv_bipush (v := nI 114) hx hb dX4_start_79 (by decide) ?_
        refine n_icmp_ne (tgt := 88) hx hb (by decide) (by decide) dX4_start_81 (by decide) (fun _ => ?_) (fun h9 => absurd h9 (by decide))
        refine lv_iconst (v := nI 0) hx hb dX4_start_88 (by decide) ?_
        refine vx_ret ?_
        refine W.widen (k := 1) (n := 6) (Nat.le_of_ble_eq_true rfl) (Nat.le_of_ble_eq_true rfl) ?_
        -- path 2
        exact W.zret (v := nI (0)) (ty := .boolean) hx hb hr (nar_b (show 0 ≤ 1 by decide)) (fun t ht hW9 => ⟨⟨nI (0), g20_z, rfl, ⟨hf, (by refine ⟨c2_z, c5_z, ?_⟩; subst eg20_z eg10_z eg8_z; unfold stF; rw [if_neg c13_z, if_neg c13_z]; exact ⟨rfl, rfl⟩)⟩, (show Wd D Z N0 g20_z ad t.heap by rw [ht]; exact hW)⟩, hS.F ht⟩) hS.2.2 dX4_start_89

set_option maxHeartbeats 4000000 in
set_option maxRecDepth 100000 in
theorem c_X4_stop (l : Launch) (hfl : l.stackTraces = false) (D : va_G) (Z : Nat → Nat) (N0 : Nat) (g : T3) (ad : T2) : vx_Met l yX4_stop wsX4_stop ({ frames := 6, cells := 1, slots := 6, locals := 300 } : Room) (PC D Z N0 g ad [.ref (ad 0 0)]) (QI D Z N0 ad (fun (r : Int32) (g1 : T3) => Fr g g1 ∧ (¬ g 0 0 6 = 111 ∧ r = nI (g 5 0 5) ∧ g1 = up g 0 0 6 111))) (QX D Z N0 g ad (fun E => E = "java/lang/IllegalStateException" ∧ g 0 0 6 = 111)) 1 6 (AA N0) := by
  refine vx_ofW (cc := cX4_stop) (maxL := 1) (ret := (some .int)) (by decide) rfl ?_
  intro pP eP sP mP args below meth cP s₁ B hmlP hnt hvP
  obtain ⟨rfl, hW, hC⟩ := hvP
  have hx := B.exec
  have hb := B.bytes
  have hr := B.returns
  have hts := atoms_spec (ws := wsX4_stop) B.pre
  have hown : sP.vm.findClass RX4 = some mP.cls := findClass_of_methodNamed B.named
  have hlocks := B.notSynchronized
  have i_X4 : ∀ w ∈ wsX40, w ∈ wsX4_stop := (fun _ h => List.mem_cons_of_mem _ (List.mem_append_left _ (List.mem_append_left _ (List.mem_append_right _ h))))
  have k_36 : Cond.fieldLink RX4 36 "StartChain" "state" "C" ∈ wsX4_stop := by decide +kernel
  have k_29 : Cond.fieldLink RX4 29 "StartChain" "lastStart" "LStartChain$Pass;" ∈ wsX4_stop := by decide +kernel
  have i_X1 : ∀ w ∈ wsX10, w ∈ wsX4_stop := (fun _ h => List.mem_cons_of_mem _ (List.mem_append_left _ (List.mem_append_right _ h)))
  have k_136 : Cond.fieldLink RX4 136 "StartChain$Pass" "ranCount" "I" ∈ wsX4_stop := by decide +kernel
  have w_Cond_classLink_RX4_65__java_lang_IllegalStateException_ : Cond.classLink RX4 65 "java/lang/IllegalStateException" ∈ wsX4_stop := by decide +kernel
  have w_Cond_initialized__java_lang_IllegalStateException_ : Cond.initialized "java/lang/IllegalStateException" ∈ wsX4_stop := by decide +kernel
  have s_ISE : ∀ w ∈ (vx_atS RX4 69 "java/lang/IllegalStateException" thN).filter goodWord, w ∈ wsX4_stop := (fun _ h => List.mem_cons_of_mem _ (List.mem_append_right _ h))
  have M : Mx pP mP cP cX4_stop 1 sP ([.ref (ad 0 0)] : List Value).toArray wsX4_stop RX4 D Z N0 := ⟨⟨hx, hb, hmlP, hown, hts⟩, hC⟩
  have hf : Fr g g := Fr.rf g
  have hS : va_S (AA N0) sP.heap sP.heap [] := va_S.rf
  have hl := lv_entry ([.ref (ad 0 0)]) (n := 1) (Nat.le_of_ble_eq_true rfl)
  rw [lg_entry_eq]
  generalize (lg_sl ([.ref (ad 0 0)]) ++ List.replicate (1 - (lg_sl ([.ref (ad 0 0)])).length) Slot.unset).toArray = ls at hl ⊢
  have hl : lv_has ls 1 [(0, .ref (ad 0 0))] := hl
  refine lv_aload_n hx hb dX4_stop_0 rfl (lv_at hl 0 rfl) ?_
  have b1_z : g 0 0 6 ≤ 127 := hW.2.2.1.le 0 0 6 126 rfl
  refine r_get M hW 0 0 (lv0 _) (v := .int (nI (g 0 0 6))) rfl rfl i_X4 6 (by decide) k_36 (fun _ h9 => h9) rfl dX4_stop_1 ?_
  refine lv_bipush (v := nI 111) hx hb dX4_stop_4 (by decide) ?_
  refine n_icmp_ne (tgt := 19) hx hb (Nat.lt_of_le_of_lt b1_z (by decide)) (by decide) dX4_stop_6 (by decide) (fun c2_z => ?_) (fun c2_z => ?_)
  · refine lv_aload_n hx hb dX4_stop_19 rfl (lv_at hl 0 rfl) ?_
    refine lv_bipush (v := nI 111) hx hb dX4_stop_20 (by decide) ?_
    refine r_put M hW hS 0 0 (lv0 _) rfl rfl i_X4 tyX4 tyX4_ok nmX4 6 (by decide) k_36 (fun _ h9 => h9) rfl (ty := .char) (by decide +kernel) (by decide) rfl (Nat.le_of_ble_eq_true rfl) rfl rfl (Or.inr (show 111 ≤ 127 by decide)) dX4_stop_22 (fun H locs hW hS => ?_)
    obtain ⟨g3_z, eg3_z⟩ : ∃ z, z = up g 0 0 6 111 := ⟨_, rfl⟩
    rw [← eg3_z] at hW
    have hf : Fr g g3_z := by rw [eg3_z]; exact hf.up rfl
    refine lv_aload_n hx hb dX4_stop_25 rfl (lv_at hl 0 rfl) ?_
    refine r_get M hW 0 0 (lv0 _) (v := .ref (ad 5 0)) rfl rfl i_X4 4 (by decide) k_29 (fun _ h9 => h9) rfl dX4_stop_26 ?_
    have q4_z : g3_z 5 0 5 = g 5 0 5 := by rw [eg3_z]; first | rfl | simp [up_at]
    have b5_z : g3_z 5 0 5 ≤ 6 := hW.2.2.1.le 5 0 5 5 rfl
    refine r_get M hW 5 0 (show (0 : Nat) < 2 by decide) (v := .int (nI (g3_z 5 0 5))) rfl rfl i_X1 5 (by decide) k_136 (fun _ h9 => h9) rfl dX4_stop_29 ?_
    refine vx_ret ?_
    refine W.widen (k := 1) (n := 6) (Nat.le_of_ble_eq_true rfl) (Nat.le_of_ble_eq_true rfl) ?_
    -- path 1
    exact W.iret (v := nI (g3_z 5 0 5)) hx hb hr (fun t ht hW9 => ⟨⟨nI (g3_z 5 0 5), g3_z, rfl, ⟨hf, ⟨c2_z, congrArg nI (by rw [eg3_z]; first | rfl | simp [up_at]), eg3_z⟩⟩, (show Wd D Z N0 g3_z ad t.heap by rw [ht]; exact hW)⟩, hS.F ht⟩) hS.2.2 dX4_stop_32
  · exact k_throw (cls := "java/lang/IllegalStateException") (text := "off") M hfl hW hS (by decide +kernel) (by decide +kernel) (by decide +kernel) g_ISE n_ISE w_Cond_classLink_RX4_65__java_lang_IllegalStateException_ w_Cond_initialized__java_lang_IllegalStateException_ s_ISE hl.1 hnt hlocks ⟨rfl, c2_z⟩ dX4_stop_9 dX4_stop_12 dX4_stop_13 dX4_stop_15 dX4_stop_18 (Nat.le_of_ble_eq_true rfl) (Nat.le_of_ble_eq_true rfl) (Nat.le_of_ble_eq_true rfl) (Nat.le_of_ble_eq_true rfl) (Nat.le_of_ble_eq_true rfl) (Nat.le_of_ble_eq_true rfl)

set_option maxHeartbeats 4000000 in
set_option maxRecDepth 100000 in
theorem c_X4_commit (l : Launch) (hfl : l.stackTraces = false) (D : va_G) (Z : Nat → Nat) (N0 : Nat) (g : T3) (ad : T2) : vx_Met l yX4_commit wsX4_commit ({ frames := 6, cells := 1, slots := 6, locals := 300 } : Room) (PC D Z N0 g ad [.ref (ad 0 0)]) (QI D Z N0 ad (fun (r : Int32) (g1 : T3) => Fr g g1 ∧ (g 0 0 6 = 114 ∧ r = nI (cmt g (min (g 5 0 5) (g 3 0 2))).1 ∧ g1 = (cmt g (min (g 5 0 5) (g 3 0 2))).2))) (QX D Z N0 g ad (fun E => E = "java/lang/IllegalStateException" ∧ ¬ g 0 0 6 = 114)) 1 6 (AA N0) := by
  refine vx_ofW (cc := cX4_commit) (maxL := 4) (ret := (some .int)) (by decide) rfl ?_
  intro pP eP sP mP args below meth cP s₁ B hmlP hnt hvP
  obtain ⟨rfl, hW, hC⟩ := hvP
  have hx := B.exec
  have hb := B.bytes
  have hr := B.returns
  have hts := atoms_spec (ws := wsX4_commit) B.pre
  have hown : sP.vm.findClass RX4 = some mP.cls := findClass_of_methodNamed B.named
  have hlocks := B.notSynchronized
  have i_X4 : ∀ w ∈ wsX40, w ∈ wsX4_commit := (fun _ h => List.mem_cons_of_mem _ (List.mem_append_left _ (List.mem_append_left _ (List.mem_append_left _ (List.mem_append_left _ (List.mem_append_left _ (List.mem_append_right _ h)))))))
  have k_36 : Cond.fieldLink RX4 36 "StartChain" "state" "C" ∈ wsX4_commit := by decide +kernel
  have k_29 : Cond.fieldLink RX4 29 "StartChain" "lastStart" "LStartChain$Pass;" ∈ wsX4_commit := by decide +kernel
  have i_X1 : ∀ w ∈ wsX10, w ∈ wsX4_commit := (fun _ h => List.mem_cons_of_mem _ (List.mem_append_left _ (List.mem_append_left _ (List.mem_append_left _ (List.mem_append_left _ (List.mem_append_right _ h))))))
  have k_136 : Cond.fieldLink RX4 136 "StartChain$Pass" "ranCount" "I" ∈ wsX4_commit := by decide +kernel
  have k_16 : Cond.fieldLink RX4 16 "StartChain" "stages" "Ljava/util/ArrayList;" ∈ wsX4_commit := by decide +kernel
  have w_Cond_classLink_RX4_70__StartChain_Stage_ : Cond.classLink RX4 70 "StartChain$Stage" ∈ wsX4_commit := by decide +kernel
  have k_145 : Cond.fieldLink RX4 145 "StartChain$Pass" "versions" "[I" ∈ wsX4_commit := by decide +kernel
  have i_X3 : ∀ w ∈ wsX30, w ∈ wsX4_commit := (fun _ h => List.mem_cons_of_mem _ (List.mem_append_left _ (List.mem_append_left _ (List.mem_append_left _ (List.mem_append_right _ h)))))
  have k_116 : Cond.fieldLink RX4 116 "StartChain$Stage" "counter" "I" ∈ wsX4_commit := by decide +kernel
  have w_Cond_classLink_RX4_65__java_lang_IllegalStateException_ : Cond.classLink RX4 65 "java/lang/IllegalStateException" ∈ wsX4_commit := by decide +kernel
  have w_Cond_initialized__java_lang_IllegalStateException_ : Cond.initialized "java/lang/IllegalStateException" ∈ wsX4_commit := by decide +kernel
  have s_ISE : ∀ w ∈ (vx_atS RX4 69 "java/lang/IllegalStateException" thN).filter goodWord, w ∈ wsX4_commit := (fun _ h => List.mem_cons_of_mem _ (List.mem_append_left _ (List.mem_append_right _ h)))
  have M : Mx pP mP cP cX4_commit 4 sP ([.ref (ad 0 0)] : List Value).toArray wsX4_commit RX4 D Z N0 := ⟨⟨hx, hb, hmlP, hown, hts⟩, hC⟩
  have hf : Fr g g := Fr.rf g
  have hS : va_S (AA N0) sP.heap sP.heap [] := va_S.rf
  have hl := lv_entry ([.ref (ad 0 0)]) (n := 4) (Nat.le_of_ble_eq_true rfl)
  rw [lg_entry_eq]
  generalize (lg_sl ([.ref (ad 0 0)]) ++ List.replicate (4 - (lg_sl ([.ref (ad 0 0)])).length) Slot.unset).toArray = ls at hl ⊢
  have hl : lv_has ls 4 [(0, .ref (ad 0 0))] := hl
  have hsz := (hW.2.2.2 0 (by decide)).1
  refine lv_aload_n hx hb dX4_commit_0 rfl (lv_at hl 0 rfl) ?_
  have b1_z : g 0 0 6 ≤ 127 := hW.2.2.1.le 0 0 6 126 rfl
  refine r_get M hW 0 0 (lv0 _) (v := .int (nI (g 0 0 6))) rfl rfl i_X4 6 (by decide) k_36 (fun _ h9 => h9) rfl dX4_commit_1 ?_
  refine lv_bipush (v := nI 114) hx hb dX4_commit_4 (by decide) ?_
  refine n_icmp_eq (tgt := 19) hx hb (Nat.lt_of_le_of_lt b1_z (by decide)) (by decide) dX4_commit_6 (by decide) (fun c2_z => ?_) (fun c2_z => ?_)
  · refine lv_iconst (v := nI 0) hx hb dX4_commit_19 (by decide) ?_
    refine lv_istore_n (lv' := [(1, .int (nI (0))), (0, .ref (ad 0 0))]) hx hb dX4_commit_20 rfl hl (by decide) rfl (fun ls hl => ?_)
    refine lv_iconst (v := nI 0) hx hb dX4_commit_21 (by decide) ?_
    refine lv_istore_n (lv' := [(2, .int (nI (0))), (1, .int (nI (0))), (0, .ref (ad 0 0))]) hx hb dX4_commit_22 rfl hl (by decide) rfl (fun ls hl => ?_)
    refine k_loop (D := D) (Z := Z) (N0 := N0) (ad := ad) (g0 := g) (σ := Nat) (a0 := 0) (6) 4 (0) (fun k gk a => Fr g gk ∧ (a = (cmt g k).1 ∧ gk = (cmt g k).2 ∧ k ≤ g 5 0 5 ∧ k ≤ g 3 0 2 ∧ gk 5 0 5 = g 5 0 5)) (fun k a => [(2, .int (nI (k))), (1, .int (nI (a))), (0, .ref (ad 0 0))]) (by decide) ⟨hf, ⟨rfl, rfl, Nat.zero_le _, Nat.zero_le _, rfl⟩⟩ hW hS (lv_sub hl [0, 1, 2] rfl) (fun n k gk a H locs ls hkn hI hW hS hl ih => ?_)
    obtain ⟨hf, hI⟩ := hI
    have hn9 : gk 3 0 2 = g 3 0 2 := hf.1 0 2 (by decide)
    obtain ⟨hIa, hIg, hk5, hk3, hn5⟩ := hI
    refine lv_iload_n hx hb dX4_commit_23 rfl (lv_at hl 0 rfl) ?_
    refine lv_aload_n hx hb dX4_commit_24 rfl (lv_at hl 2 rfl) ?_
    refine r_get M hW 0 0 (lv0 _) (v := .ref (ad 5 0)) rfl rfl i_X4 4 (by decide) k_29 (fun _ h9 => h9) rfl dX4_commit_25 ?_
    have b3_z : gk 5 0 5 ≤ 6 := hW.2.2.1.le 5 0 5 5 rfl
    refine r_get M hW 5 0 (show (0 : Nat) < 2 by decide) (v := .int (nI (gk 5 0 5))) rfl rfl i_X1 5 (by decide) k_136 (fun _ h9 => h9) rfl dX4_commit_28 ?_
    refine n_icmp_ge (tgt := 95) hx hb (by omega) (Nat.lt_of_le_of_lt b3_z (by decide)) dX4_commit_31 (by decide) (fun c4_z => ?_) (fun c4_z => ?_)
    · refine lv_iload_n hx hb dX4_commit_95 rfl (lv_at hl 1 rfl) ?_
      refine vx_ret ?_
      refine W.widen (k := 1) (n := 6) (Nat.le_of_ble_eq_true rfl) (Nat.le_of_ble_eq_true rfl) ?_
      -- path 1
      exact W.iret (v := nI (a)) hx hb hr (fun t ht hW9 => ⟨⟨nI (a), gk, rfl, ⟨hf, (by rw [show min (g 5 0 5) (g 3 0 2) = k by omega]; exact ⟨c2_z, congrArg nI hIa, hIg⟩)⟩, (show Wd D Z N0 gk ad t.heap by rw [ht]; exact hW)⟩, hS.F ht⟩) hS.2.2 dX4_commit_96
    · refine lv_iload_n hx hb dX4_commit_34 rfl (lv_at hl 0 rfl) ?_
      refine lv_aload_n hx hb dX4_commit_35 rfl (lv_at hl 2 rfl) ?_
      refine r_get M hW 0 0 (lv0 _) (v := .ref (ad 3 0)) rfl rfl i_X4 1 (by decide) k_16 (fun _ h9 => h9) rfl dX4_commit_36 ?_
      refine k_ci (k_rV (As := []) (rest := [.int (nI (k))]) M hW hS (c_Jx4a65c_size_8abf5 l D Z N0 gk ad 0 (by decide)) (cwV 0 hts gX4_commit_Jx4a65c_size_8abf5 rfl rfl rfl (by decide +kernel) ⟨Nat.le_of_ble_eq_true rfl, Nat.le_of_ble_eq_true rfl⟩) (r_recv M.2 hW 3 0 (show (0 : Nat) < 2 by decide) rfl rfl) rfl hl.1 rfl (Nat.le_of_ble_eq_true rfl) dX4_commit_39 ⟨Nat.le_of_ble_eq_true rfl, Nat.le_of_ble_eq_true rfl⟩) hS (fun r6_z g5_z H locs hp hW hS => ?_)
      obtain ⟨hf1, hp⟩ := hp
      have hf : Fr g g5_z := hf.trans hf1
      obtain ⟨rfl, hg⟩ := hp
      subst hg
      have b7_z : gk 3 0 2 ≤ 8 := hW.2.2.1.le 3 0 2 7 rfl
      refine n_icmp_ge (tgt := 95) hx hb (by omega) (Nat.lt_of_le_of_lt b7_z (by decide)) dX4_commit_42 (by decide) (fun c8_z => ?_) (fun c8_z => ?_)
      · refine lv_iload_n hx hb dX4_commit_95 rfl (lv_at hl 1 rfl) ?_
        refine vx_ret ?_
        refine W.widen (k := 1) (n := 6) (Nat.le_of_ble_eq_true rfl) (Nat.le_of_ble_eq_true rfl) ?_
        -- path 2
        exact W.iret (v := nI (a)) hx hb hr (fun t ht hW9 => ⟨⟨nI (a), gk, rfl, ⟨hf, (by rw [show min (g 5 0 5) (g 3 0 2) = k by omega]; exact ⟨c2_z, congrArg nI hIa, hIg⟩)⟩, (show Wd D Z N0 gk ad t.heap by rw [ht]; exact hW)⟩, hS.F ht⟩) hS.2.2 dX4_commit_96
      · refine lv_aload_n hx hb dX4_commit_45 rfl (lv_at hl 2 rfl) ?_
        refine r_get M hW 0 0 (lv0 _) (v := .ref (ad 3 0)) rfl rfl i_X4 1 (by decide) k_16 (fun _ h9 => h9) rfl dX4_commit_46 ?_
        refine lv_iload_n hx hb dX4_commit_49 rfl (lv_at hl 0 rfl) ?_
        refine k_cr (k_rV (As := [.int (nI (k))]) (rest := []) M hW hS (c_Jx4a65c_get_915e3 l D Z N0 gk ad 0 k (by decide) (by omega)) (cwV 1 hts gX4_commit_Jx4a65c_get_915e3 rfl rfl rfl (by decide +kernel) ⟨Nat.le_of_ble_eq_true rfl, Nat.le_of_ble_eq_true rfl⟩) (r_recv M.2 hW 3 0 (show (0 : Nat) < 2 by decide) rfl rfl) rfl hl.1 rfl (Nat.le_of_ble_eq_true rfl) dX4_commit_50 ⟨Nat.le_of_ble_eq_true rfl, Nat.le_of_ble_eq_true rfl⟩) hS (fun r10_z g9_z H locs hp hW hS => ?_)
        obtain ⟨hf1, hp⟩ := hp
        have hf : Fr g g9_z := hf.trans hf1
        obtain ⟨hp, hg⟩ := hp
        subst hg
        have hp : r10_z = ad 10 k := hp
        subst hp
        refine va_castS hx hb hown (hts _ w_Cond_classLink_RX4_70__StartChain_Stage_) (hC.1.1 6 _ rfl).2 (r_recv hC hW 10 k (hf.lv (Nat.lt_of_lt_of_le (show k < g 3 0 2 by omega) hsz)) rfl rfl) dX4_commit_53 ?_
        refine lv_astore_n (lv' := [(3, .ref (ad 10 k)), (2, .int (nI (k))), (1, .int (nI (a))), (0, .ref (ad 0 0))]) hx hb dX4_commit_56 rfl hl (by decide) rfl (fun ls hl => ?_)
        refine lv_aload_n hx hb dX4_commit_57 rfl (lv_at hl 3 rfl) ?_
        refine r_get M hW 0 0 (lv0 _) (v := .ref (ad 5 0)) rfl rfl i_X4 4 (by decide) k_29 (fun _ h9 => h9) rfl dX4_commit_58 ?_
        refine r_get M hW 5 0 (show (0 : Nat) < 2 by decide) (v := .ref (ad 9 0)) rfl rfl i_X1 4 (by decide) k_145 (fun _ h9 => h9) rfl dX4_commit_61 ?_
        refine lv_iload_n hx hb dX4_commit_64 rfl (lv_at hl 1 rfl) ?_
        refine r_iald M hW 9 0 (show (0 : Nat) < 2 by decide) (n := 6) rfl (by omega) (by decide) dX4_commit_65 ?_
        have b11_z : gk 9 0 k ≤ 99 := hW.2.2.1.le 9 0 k 98 rfl
        refine lv_aload_n hx hb dX4_commit_66 rfl (lv_at hl 0 rfl) ?_
        have b12_z : gk 10 k 3 ≤ 99 := hW.2.2.1.le 10 k 3 98 rfl
        refine r_get M hW 10 k (hf.lv (Nat.lt_of_lt_of_le (show k < g 3 0 2 by omega) hsz)) (v := .int (nI (gk 10 k 3))) rfl rfl i_X3 3 (by decide) k_116 (fun _ h9 => h9) rfl dX4_commit_67 ?_
        refine n_icmp_le (tgt := 89) hx hb (Nat.lt_of_le_of_lt b11_z (by decide)) (Nat.lt_of_le_of_lt b12_z (by decide)) dX4_commit_70 (by decide) (fun c13_z => ?_) (fun c13_z => ?_)
        · refine lv_iinc (v := nI (k + 1)) (lv' := [(2, .int (nI (k + 1))), (3, .ref (ad 10 k)), (1, .int (nI (a))), (0, .ref (ad 0 0))]) hx hb dX4_commit_89 hl (k := 1) rfl (nI_add _ _) (by decide) rfl (fun ls hl => ?_)
          refine lv_goto (tgt := 23) hx hb dX4_commit_92 (by decide) ?_
          exact ih (by omega) gk (a) _ _ _ ⟨hf, ⟨by rw [cmt_0 (by rw [← hIg]; exact c13_z)]; exact hIa, by rw [cmt_0 (by rw [← hIg]; exact c13_z)]; exact hIg, by omega, by omega, hn5⟩⟩ hW hS (lv_sub hl [0, 2, 3] rfl)
        · refine lv_aload_n hx hb dX4_commit_73 rfl (lv_at hl 0 rfl) ?_
          refine lv_aload_n hx hb dX4_commit_74 rfl (lv_at hl 3 rfl) ?_
          refine r_get M hW 0 0 (lv0 _) (v := .ref (ad 5 0)) rfl rfl i_X4 4 (by decide) k_29 (fun _ h9 => h9) rfl dX4_commit_75 ?_
          refine r_get M hW 5 0 (show (0 : Nat) < 2 by decide) (v := .ref (ad 9 0)) rfl rfl i_X1 4 (by decide) k_145 (fun _ h9 => h9) rfl dX4_commit_78 ?_
          refine lv_iload_n hx hb dX4_commit_81 rfl (lv_at hl 1 rfl) ?_
          refine r_iald M hW 9 0 (show (0 : Nat) < 2 by decide) (n := 6) rfl (by omega) (by decide) dX4_commit_82 ?_
          have b14_z : gk 9 0 k ≤ 99 := hW.2.2.1.le 9 0 k 98 rfl
          refine r_put M hW hS 10 k (hf.lv (Nat.lt_of_lt_of_le (show k < g 3 0 2 by omega) hsz)) rfl rfl i_X3 tyX3 tyX3_ok nmX3 3 (by decide) k_116 (fun _ h9 => h9) rfl (ty := .int) (by decide +kernel) rfl rfl (Nat.le_of_ble_eq_true rfl) rfl rfl (Or.inr b14_z) dX4_commit_83 (fun H locs hW hS => ?_)
          obtain ⟨g15_z, eg15_z⟩ : ∃ z, z = up gk 10 k 3 (gk 9 0 k) := ⟨_, rfl⟩
          rw [← eg15_z] at hW
          have hf : Fr g g15_z := by rw [eg15_z]; exact hf.up rfl
          refine lv_iinc (v := nI (a + 1)) (lv' := [(1, .int (nI (a + 1))), (3, .ref (ad 10 k)), (2, .int (nI (k))), (0, .ref (ad 0 0))]) hx hb dX4_commit_86 hl (k := 2) rfl (nI_add _ _) (by decide) rfl (fun ls hl => ?_)
          refine lv_iinc (v := nI (k + 1)) (lv' := [(2, .int (nI (k + 1))), (1, .int (nI (a + 1))), (3, .ref (ad 10 k)), (0, .ref (ad 0 0))]) hx hb dX4_commit_89 hl (k := 2) rfl (nI_add _ _) (by decide) rfl (fun ls hl => ?_)
          refine lv_goto (tgt := 23) hx hb dX4_commit_92 (by decide) ?_
          exact ih (by omega) g15_z (a + 1) _ _ _ ⟨hf, ⟨by rw [cmt_1 (by rw [← hIg]; exact c13_z)]; exact congrArg (· + 1) hIa, by rw [cmt_1 (by rw [← hIg]; exact c13_z), eg15_z, hIg]; try rfl, by omega, by omega, by rw [eg15_z]; exact hn5⟩⟩ hW hS (lv_sub hl [0, 1, 3] rfl)
  · exact k_throw (cls := "java/lang/IllegalStateException") (text := "does not run") M hfl hW hS (by decide +kernel) (by decide +kernel) (by decide +kernel) g_ISE n_ISE w_Cond_classLink_RX4_65__java_lang_IllegalStateException_ w_Cond_initialized__java_lang_IllegalStateException_ s_ISE hl.1 hnt hlocks ⟨rfl, c2_z⟩ dX4_commit_9 dX4_commit_12 dX4_commit_13 dX4_commit_15 dX4_commit_18 (Nat.le_of_ble_eq_true rfl) (Nat.le_of_ble_eq_true rfl) (Nat.le_of_ble_eq_true rfl) (Nat.le_of_ble_eq_true rfl) (Nat.le_of_ble_eq_true rfl) (Nat.le_of_ble_eq_true rfl)

set_option maxHeartbeats 4000000 in
set_option maxRecDepth 100000 in
theorem c_X4_state (l : Launch) (D : va_G) (Z : Nat → Nat) (N0 : Nat) (g : T3) (ad : T2) : Met l yX4_state wsX4_state ({ frames := 0, cells := 0, slots := 0, locals := 60 } : Room) (PC D Z N0 g ad [.ref (ad 0 0)]) (QI D Z N0 ad (fun (r : Int32) (g1 : T3) => Fr g g1 ∧ (r = nI (g 0 0 6) ∧ g = g1))) 0 0 (AA N0) := by
  refine Met.ofW (cc := cX4_state) (maxL := 1) (ret := (some .char)) (by decide) rfl ?_
  intro pP eP sP mP args below meth cP s₁ B hmlP hvP
  obtain ⟨rfl, hW, hC⟩ := hvP
  have hx := B.exec
  have hb := B.bytes
  have hr := B.returns
  have hts := atoms_spec (ws := wsX4_state) B.pre
  have hown : sP.vm.findClass RX4 = some mP.cls := findClass_of_methodNamed B.named
  have hlocks := B.notSynchronized
  have i_X4 : ∀ w ∈ wsX40, w ∈ wsX4_state := (fun _ h => List.mem_cons_of_mem _ (List.mem_append_right _ h))
  have k_36 : Cond.fieldLink RX4 36 "StartChain" "state" "C" ∈ wsX4_state := by decide +kernel
  have M : Mx pP mP cP cX4_state 1 sP ([.ref (ad 0 0)] : List Value).toArray wsX4_state RX4 D Z N0 := ⟨⟨hx, hb, hmlP, hown, hts⟩, hC⟩
  have hf : Fr g g := Fr.rf g
  have hS : va_S (AA N0) sP.heap sP.heap [] := va_S.rf
  have hl := lv_entry ([.ref (ad 0 0)]) (n := 1) (Nat.le_of_ble_eq_true rfl)
  rw [lg_entry_eq]
  generalize (lg_sl ([.ref (ad 0 0)]) ++ List.replicate (1 - (lg_sl ([.ref (ad 0 0)])).length) Slot.unset).toArray = ls at hl ⊢
  have hl : lv_has ls 1 [(0, .ref (ad 0 0))] := hl
  refine lv_aload_n hx hb dX4_state_0 rfl (lv_at hl 0 rfl) ?_
  have b1_z : g 0 0 6 ≤ 127 := hW.2.2.1.le 0 0 6 126 rfl
  refine r_get M hW 0 0 (lv0 _) (v := .int (nI (g 0 0 6))) rfl rfl i_X4 6 (by decide) k_36 (fun _ h9 => h9) rfl dX4_state_1 ?_
  -- path 1
  exact W.zret (v := nI (g 0 0 6)) (ty := .char) hx hb hr (nar_c b1_z) (fun t ht hW9 => ⟨⟨nI (g 0 0 6), g, rfl, ⟨hf, ⟨rfl, rfl⟩⟩, (show Wd D Z N0 g ad t.heap by rw [ht]; exact hW)⟩, hS.F ht⟩) hS.2.2 dX4_state_4

set_option maxHeartbeats 4000000 in
set_option maxRecDepth 100000 in
theorem c_X4_fallbacks (l : Launch) (D : va_G) (Z : Nat → Nat) (N0 : Nat) (g : T3) (ad : T2) : Met l yX4_fallbacks wsX4_fallbacks ({ frames := 0, cells := 0, slots := 0, locals := 60 } : Room) (PC D Z N0 g ad [.ref (ad 0 0)]) (QI D Z N0 ad (fun (r : Int32) (g1 : T3) => Fr g g1 ∧ (r = nI (g 0 0 7) ∧ g = g1))) 0 0 (AA N0) := by
  refine Met.ofW (cc := cX4_fallbacks) (maxL := 1) (ret := (some .int)) (by decide) rfl ?_
  intro pP eP sP mP args below meth cP s₁ B hmlP hvP
  obtain ⟨rfl, hW, hC⟩ := hvP
  have hx := B.exec
  have hb := B.bytes
  have hr := B.returns
  have hts := atoms_spec (ws := wsX4_fallbacks) B.pre
  have hown : sP.vm.findClass RX4 = some mP.cls := findClass_of_methodNamed B.named
  have hlocks := B.notSynchronized
  have i_X4 : ∀ w ∈ wsX40, w ∈ wsX4_fallbacks := (fun _ h => List.mem_cons_of_mem _ (List.mem_append_right _ h))
  have k_40 : Cond.fieldLink RX4 40 "StartChain" "fallbackCount" "I" ∈ wsX4_fallbacks := by decide +kernel
  have M : Mx pP mP cP cX4_fallbacks 1 sP ([.ref (ad 0 0)] : List Value).toArray wsX4_fallbacks RX4 D Z N0 := ⟨⟨hx, hb, hmlP, hown, hts⟩, hC⟩
  have hf : Fr g g := Fr.rf g
  have hS : va_S (AA N0) sP.heap sP.heap [] := va_S.rf
  have hl := lv_entry ([.ref (ad 0 0)]) (n := 1) (Nat.le_of_ble_eq_true rfl)
  rw [lg_entry_eq]
  generalize (lg_sl ([.ref (ad 0 0)]) ++ List.replicate (1 - (lg_sl ([.ref (ad 0 0)])).length) Slot.unset).toArray = ls at hl ⊢
  have hl : lv_has ls 1 [(0, .ref (ad 0 0))] := hl
  refine lv_aload_n hx hb dX4_fallbacks_0 rfl (lv_at hl 0 rfl) ?_
  refine r_get M hW 0 0 (lv0 _) (v := .int (nI (g 0 0 7))) rfl rfl i_X4 7 (by decide) k_40 (fun _ h9 => h9) rfl dX4_fallbacks_1 ?_
  -- path 1
  exact W.iret (v := nI (g 0 0 7)) hx hb hr (fun t ht hW9 => ⟨⟨nI (g 0 0 7), g, rfl, ⟨hf, ⟨rfl, rfl⟩⟩, (show Wd D Z N0 g ad t.heap by rw [ht]; exact hW)⟩, hS.F ht⟩) hS.2.2 dX4_fallbacks_4

set_option maxHeartbeats 4000000 in
set_option maxRecDepth 100000 in
theorem c_X4_entries (l : Launch) (D : va_G) (Z : Nat → Nat) (N0 : Nat) (g : T3) (ad : T2) : Met l yX4_entries wsX4_entries ({ frames := 0, cells := 0, slots := 0, locals := 60 } : Room) (PC D Z N0 g ad [.ref (ad 0 0)]) (QI D Z N0 ad (fun (r : Int32) (g1 : T3) => Fr g g1 ∧ (r = nI (g 5 0 2) ∧ g = g1))) 0 0 (AA N0) := by
  refine Met.ofW (cc := cX4_entries) (maxL := 1) (ret := (some .int)) (by decide) rfl ?_
  intro pP eP sP mP args below meth cP s₁ B hmlP hvP
  obtain ⟨rfl, hW, hC⟩ := hvP
  have hx := B.exec
  have hb := B.bytes
  have hr := B.returns
  have hts := atoms_spec (ws := wsX4_entries) B.pre
  have hown : sP.vm.findClass RX4 = some mP.cls := findClass_of_methodNamed B.named
  have hlocks := B.notSynchronized
  have i_X4 : ∀ w ∈ wsX40, w ∈ wsX4_entries := (fun _ h => List.mem_cons_of_mem _ (List.mem_append_left _ (List.mem_append_right _ h)))
  have k_29 : Cond.fieldLink RX4 29 "StartChain" "lastStart" "LStartChain$Pass;" ∈ wsX4_entries := by decide +kernel
  have i_X1 : ∀ w ∈ wsX10, w ∈ wsX4_entries := (fun _ h => List.mem_cons_of_mem _ (List.mem_append_right _ h))
  have k_171 : Cond.fieldLink RX4 171 "StartChain$Pass" "entryCount" "I" ∈ wsX4_entries := by decide +kernel
  have M : Mx pP mP cP cX4_entries 1 sP ([.ref (ad 0 0)] : List Value).toArray wsX4_entries RX4 D Z N0 := ⟨⟨hx, hb, hmlP, hown, hts⟩, hC⟩
  have hf : Fr g g := Fr.rf g
  have hS : va_S (AA N0) sP.heap sP.heap [] := va_S.rf
  have hl := lv_entry ([.ref (ad 0 0)]) (n := 1) (Nat.le_of_ble_eq_true rfl)
  rw [lg_entry_eq]
  generalize (lg_sl ([.ref (ad 0 0)]) ++ List.replicate (1 - (lg_sl ([.ref (ad 0 0)])).length) Slot.unset).toArray = ls at hl ⊢
  have hl : lv_has ls 1 [(0, .ref (ad 0 0))] := hl
  refine lv_aload_n hx hb dX4_entries_0 rfl (lv_at hl 0 rfl) ?_
  refine r_get M hW 0 0 (lv0 _) (v := .ref (ad 5 0)) rfl rfl i_X4 4 (by decide) k_29 (fun _ h9 => h9) rfl dX4_entries_1 ?_
  have b1_z : g 5 0 2 ≤ 12 := hW.2.2.1.le 5 0 2 11 rfl
  refine r_get M hW 5 0 (show (0 : Nat) < 2 by decide) (v := .int (nI (g 5 0 2))) rfl rfl i_X1 2 (by decide) k_171 (fun _ h9 => h9) rfl dX4_entries_4 ?_
  -- path 1
  exact W.iret (v := nI (g 5 0 2)) hx hb hr (fun t ht hW9 => ⟨⟨nI (g 5 0 2), g, rfl, ⟨hf, ⟨rfl, rfl⟩⟩, (show Wd D Z N0 g ad t.heap by rw [ht]; exact hW)⟩, hS.F ht⟩) hS.2.2 dX4_entries_7

set_option maxHeartbeats 4000000 in
set_option maxRecDepth 100000 in
theorem c_X4_runsFrom (l : Launch) (hfl : l.stackTraces = false) (D : va_G) (Z : Nat → Nat) (N0 : Nat) (g : T3) (ad : T2) (x : Int32) : vx_Met l yX4_runsFrom wsX4_runsFrom ({ frames := 6, cells := 1, slots := 6, locals := 300 } : Room) (PC D Z N0 g ad [.ref (ad 0 0), .int (x)]) (QI D Z N0 ad (fun (r : Int32) (g1 : T3) => Fr g g1 ∧ (∃ i, i < g 3 0 2 ∧ x = nI i ∧ i < cRun g ∧ r = nI (g 8 0 i) ∧ g = g1))) (QX D Z N0 g ad (fun E => (E = "java/lang/IndexOutOfBoundsException" ∧ ¬ Ix (g 3 0 2) x) ∨ (E = nx_R ∧ ∃ i, i < g 3 0 2 ∧ x = nI i ∧ ¬ i < cRun g))) 1 6 (AA N0) := by
  refine vx_ofW (cc := cX4_runsFrom) (maxL := 2) (ret := (some .int)) (by decide) rfl ?_
  intro pP eP sP mP args below meth cP s₁ B hmlP hnt hvP
  obtain ⟨rfl, hW, hC⟩ := hvP
  have hx := B.exec
  have hb := B.bytes
  have hr := B.returns
  have hts := atoms_spec (ws := wsX4_runsFrom) B.pre
  have hown : sP.vm.findClass RX4 = some mP.cls := findClass_of_methodNamed B.named
  have hlocks := B.notSynchronized
  have i_X4 : ∀ w ∈ wsX40, w ∈ wsX4_runsFrom := (fun _ h => List.mem_cons_of_mem _ (List.mem_append_left _ (List.mem_append_left _ (List.mem_append_left _ (List.mem_append_left _ (List.mem_append_left _ (List.mem_append_right _ h)))))))
  have k_29 : Cond.fieldLink RX4 29 "StartChain" "lastStart" "LStartChain$Pass;" ∈ wsX4_runsFrom := by decide +kernel
  have i_X1 : ∀ w ∈ wsX10, w ∈ wsX4_runsFrom := (fun _ h => List.mem_cons_of_mem _ (List.mem_append_left _ (List.mem_append_left _ (List.mem_append_left _ (List.mem_append_left _ (List.mem_append_right _ h))))))
  have k_165 : Cond.fieldLink RX4 165 "StartChain$Pass" "slots" "[I" ∈ wsX4_runsFrom := by decide +kernel
  have w_Cond_classLink_RX4_160__java_util_NoSuchElementException_ : Cond.classLink RX4 160 "java/util/NoSuchElementException" ∈ wsX4_runsFrom := by decide +kernel
  have w_Cond_initialized__java_util_NoSuchElementException_ : Cond.initialized "java/util/NoSuchElementException" ∈ wsX4_runsFrom := by decide +kernel
  have s_NSE : ∀ w ∈ (nx_at RX4 164).filter goodWord, w ∈ wsX4_runsFrom := (fun _ h => List.mem_cons_of_mem _ (List.mem_append_left _ (List.mem_append_right _ h)))
  have w_Cond_classLink_RX4_152__java_lang_IndexOutOfBoundsException_ : Cond.classLink RX4 152 "java/lang/IndexOutOfBoundsException" ∈ wsX4_runsFrom := by decide +kernel
  have w_Cond_initialized__java_lang_IndexOutOfBoundsException_ : Cond.initialized "java/lang/IndexOutOfBoundsException" ∈ wsX4_runsFrom := by decide +kernel
  have s_IOO : ∀ w ∈ (vx_atS RX4 156 "java/lang/IndexOutOfBoundsException" thN).filter goodWord, w ∈ wsX4_runsFrom := (fun _ h => List.mem_cons_of_mem _ (List.mem_append_left _ (List.mem_append_left _ (List.mem_append_right _ h))))
  have M : Mx pP mP cP cX4_runsFrom 2 sP ([.ref (ad 0 0), .int (x)] : List Value).toArray wsX4_runsFrom RX4 D Z N0 := ⟨⟨hx, hb, hmlP, hown, hts⟩, hC⟩
  have hf : Fr g g := Fr.rf g
  have hS : va_S (AA N0) sP.heap sP.heap [] := va_S.rf
  have hl := lv_entry ([.ref (ad 0 0), .int (x)]) (n := 2) (Nat.le_of_ble_eq_true rfl)
  rw [lg_entry_eq]
  generalize (lg_sl ([.ref (ad 0 0), .int (x)]) ++ List.replicate (2 - (lg_sl ([.ref (ad 0 0), .int (x)])).length) Slot.unset).toArray = ls at hl ⊢
  have hl : lv_has ls 2 [(0, .ref (ad 0 0)), (1, .int (x))] := hl
  have hsz9 := hW.2.2.1.le 3 0 2 7 rfl
  refine lv_aload_n hx hb dX4_runsFrom_0 rfl (lv_at hl 0 rfl) ?_
  refine lv_iload_n hx hb dX4_runsFrom_1 rfl (lv_at hl 1 rfl) ?_
  refine k_ci (k_rV (As := [.int (x)]) (rest := []) M hW hS (c_X4_isStage l D Z N0 g ad (x)) (cwV 1 hts gX4_runsFrom_X4_isStage rfl rfl rfl (by decide +kernel) ⟨Nat.le_of_ble_eq_true rfl, Nat.le_of_ble_eq_true rfl⟩) (r_recv M.2 hW 0 0 (lv0 _) rfl rfl) rfl hl.1 rfl (Nat.le_of_ble_eq_true rfl) dX4_runsFrom_2 ⟨Nat.le_of_ble_eq_true rfl, Nat.le_of_ble_eq_true rfl⟩) hS (fun r2_z g1_z H locs hp hW hS => ?_)
  obtain ⟨hf1, hp⟩ := hp
  have hf : Fr g g1_z := hf.trans hf1
  obtain ⟨hp, hg⟩ := hp
  subst hg
  rcases hp with ⟨rfl, c3_z⟩ | ⟨rfl, c3_z⟩
  · obtain ⟨i, hi, rfl⟩ := c3_z
    refine n_if_ne (tgt := 18) hx hb (by decide) dX4_runsFrom_5 (by decide) (fun _ => ?_) (fun h9 => absurd h9 (by decide))
    refine lv_iload_n hx hb dX4_runsFrom_18 rfl (lv_at hl 1 rfl) ?_
    refine lv_aload_n hx hb dX4_runsFrom_19 rfl (lv_at hl 0 rfl) ?_
    refine k_ci (k_rV (As := []) (rest := [.int (nI (i))]) M hW hS (c_X4_countRunning l D Z N0 g ad) (cwV 0 hts gX4_runsFrom_X4_countRunning rfl rfl rfl (by decide +kernel) ⟨Nat.le_of_ble_eq_true rfl, Nat.le_of_ble_eq_true rfl⟩) (r_recv M.2 hW 0 0 (lv0 _) rfl rfl) rfl hl.1 rfl (Nat.le_of_ble_eq_true rfl) dX4_runsFrom_20 ⟨Nat.le_of_ble_eq_true rfl, Nat.le_of_ble_eq_true rfl⟩) hS (fun r6_z g5_z H locs hp hW hS => ?_)
    obtain ⟨hf1, hp⟩ := hp
    have hf : Fr g g5_z := hf.trans hf1
    obtain ⟨rfl, hg⟩ := hp
    subst hg
    have hcr9 : cRun g ≤ 6 := by unfold cRun; split; exact Nat.zero_le _; exact hW.2.2.1.le 5 0 5 5 rfl
    refine n_icmp_lt (tgt := 36) hx hb (by omega) (Nat.lt_of_le_of_lt hcr9 (by decide)) dX4_runsFrom_23 (by decide) (fun c7_z => ?_) (fun c7_z => ?_)
    · refine lv_aload_n hx hb dX4_runsFrom_36 rfl (lv_at hl 0 rfl) ?_
      refine r_get M hW 0 0 (lv0 _) (v := .ref (ad 5 0)) rfl rfl i_X4 4 (by decide) k_29 (fun _ h9 => h9) rfl dX4_runsFrom_37 ?_
      refine r_get M hW 5 0 (show (0 : Nat) < 2 by decide) (v := .ref (ad 8 0)) rfl rfl i_X1 3 (by decide) k_165 (fun _ h9 => h9) rfl dX4_runsFrom_40 ?_
      refine lv_iload_n hx hb dX4_runsFrom_43 rfl (lv_at hl 1 rfl) ?_
      refine r_iald M hW 8 0 (show (0 : Nat) < 2 by decide) (n := 6) rfl (by omega) (by decide) dX4_runsFrom_44 ?_
      have b8_z : g 8 0 i ≤ 1 := hW.2.2.1.le 8 0 i 0 rfl
      refine vx_ret ?_
      refine W.widen (k := 1) (n := 6) (Nat.le_of_ble_eq_true rfl) (Nat.le_of_ble_eq_true rfl) ?_
      -- path 1
      exact W.iret (v := nI (g 8 0 i)) hx hb hr (fun t ht hW9 => ⟨⟨nI (g 8 0 i), g, rfl, ⟨hf, ⟨i, hi, rfl, c7_z, rfl, rfl⟩⟩, (show Wd D Z N0 g ad t.heap by rw [ht]; exact hW)⟩, hS.F ht⟩) hS.2.2 dX4_runsFrom_45
    · exact k_throwN (text := "the stage does not run") M hfl hW hS (by decide +kernel) w_Cond_classLink_RX4_160__java_util_NoSuchElementException_ w_Cond_initialized__java_util_NoSuchElementException_ s_NSE hl.1 hnt hlocks (Or.inr ⟨rfl, i, hi, rfl, c7_z⟩) dX4_runsFrom_26 dX4_runsFrom_29 dX4_runsFrom_30 dX4_runsFrom_32 dX4_runsFrom_35 (Nat.le_of_ble_eq_true rfl) (Nat.le_of_ble_eq_true rfl) (Nat.le_of_ble_eq_true rfl) (Nat.le_of_ble_eq_true rfl) (Nat.le_of_ble_eq_true rfl) (Nat.le_of_ble_eq_true rfl)
  · refine n_if_ne (tgt := 18) hx hb (by decide) dX4_runsFrom_5 (by decide) (fun h9 => absurd h9 (by decide)) (fun _ => ?_)
    exact k_throw (cls := "java/lang/IndexOutOfBoundsException") (text := "no such stage") M hfl hW hS (by decide +kernel) (by decide +kernel) (by decide +kernel) g_IOO n_IOO w_Cond_classLink_RX4_152__java_lang_IndexOutOfBoundsException_ w_Cond_initialized__java_lang_IndexOutOfBoundsException_ s_IOO hl.1 hnt hlocks (Or.inl ⟨rfl, c3_z⟩) dX4_runsFrom_8 dX4_runsFrom_11 dX4_runsFrom_12 dX4_runsFrom_14 dX4_runsFrom_17 (Nat.le_of_ble_eq_true rfl) (Nat.le_of_ble_eq_true rfl) (Nat.le_of_ble_eq_true rfl) (Nat.le_of_ble_eq_true rfl) (Nat.le_of_ble_eq_true rfl) (Nat.le_of_ble_eq_true rfl)

set_option maxHeartbeats 4000000 in
set_option maxRecDepth 100000 in
theorem c_X4_register (l : Launch) (hfl : l.stackTraces = false) (D : va_G) (Z : Nat → Nat) (N0 : Nat) (g : T3) (ad : T2) (x : Int32) : vx_Met l yX4_register wsX4_register ({ frames := 6, cells := 1, slots := 6, locals := 300 } : Room) (PC D Z N0 g ad [.ref (ad 0 0), .int (x)]) (QI D Z N0 ad (fun (r : Int32) (g1 : T3) => Fr g g1 ∧ (∃ i, i < 3 ∧ x = nI i ∧ r = nI (g 6 0 i) ∧ g = g1))) (QX D Z N0 g ad (fun E => E = "java/lang/IndexOutOfBoundsException" ∧ ¬ Ix 3 x)) 1 6 (AA N0) := by
  refine vx_ofW (cc := cX4_register) (maxL := 2) (ret := (some .int)) (by decide) rfl ?_
  intro pP eP sP mP args below meth cP s₁ B hmlP hnt hvP
  obtain ⟨rfl, hW, hC⟩ := hvP
  have hx := B.exec
  have hb := B.bytes
  have hr := B.returns
  have hts := atoms_spec (ws := wsX4_register) B.pre
  have hown : sP.vm.findClass RX4 = some mP.cls := findClass_of_methodNamed B.named
  have hlocks := B.notSynchronized
  have i_X4 : ∀ w ∈ wsX40, w ∈ wsX4_register := (fun _ h => List.mem_cons_of_mem _ (List.mem_append_left _ (List.mem_append_left _ (List.mem_append_left _ (List.mem_append_right _ h)))))
  have k_29 : Cond.fieldLink RX4 29 "StartChain" "lastStart" "LStartChain$Pass;" ∈ wsX4_register := by decide +kernel
  have i_X1 : ∀ w ∈ wsX10, w ∈ wsX4_register := (fun _ h => List.mem_cons_of_mem _ (List.mem_append_left _ (List.mem_append_left _ (List.mem_append_right _ h))))
  have k_168 : Cond.fieldLink RX4 168 "StartChain$Pass" "registers" "[I" ∈ wsX4_register := by decide +kernel
  have w_Cond_classLink_RX4_152__java_lang_IndexOutOfBoundsException_ : Cond.classLink RX4 152 "java/lang/IndexOutOfBoundsException" ∈ wsX4_register := by decide +kernel
  have w_Cond_initialized__java_lang_IndexOutOfBoundsException_ : Cond.initialized "java/lang/IndexOutOfBoundsException" ∈ wsX4_register := by decide +kernel
  have s_IOO : ∀ w ∈ (vx_atS RX4 156 "java/lang/IndexOutOfBoundsException" thN).filter goodWord, w ∈ wsX4_register := (fun _ h => List.mem_cons_of_mem _ (List.mem_append_left _ (List.mem_append_right _ h)))
  have M : Mx pP mP cP cX4_register 2 sP ([.ref (ad 0 0), .int (x)] : List Value).toArray wsX4_register RX4 D Z N0 := ⟨⟨hx, hb, hmlP, hown, hts⟩, hC⟩
  have hf : Fr g g := Fr.rf g
  have hS : va_S (AA N0) sP.heap sP.heap [] := va_S.rf
  have hl := lv_entry ([.ref (ad 0 0), .int (x)]) (n := 2) (Nat.le_of_ble_eq_true rfl)
  rw [lg_entry_eq]
  generalize (lg_sl ([.ref (ad 0 0), .int (x)]) ++ List.replicate (2 - (lg_sl ([.ref (ad 0 0), .int (x)])).length) Slot.unset).toArray = ls at hl ⊢
  have hl : lv_has ls 2 [(0, .ref (ad 0 0)), (1, .int (x))] := hl
  refine lv_iload_n hx hb dX4_register_0 rfl (lv_at hl 1 rfl) ?_
  refine k_ci (k_rS (As := [.int (x)]) (rest := []) M hW hS (c_X4_isRegister l D Z N0 g ad (x)) (va_cwS 1 hts gX4_register_X4_isRegister rfl rfl rfl (by decide +kernel) ⟨Nat.le_of_ble_eq_true rfl, Nat.le_of_ble_eq_true rfl⟩) rfl hl.1 rfl (Nat.le_of_ble_eq_true rfl) dX4_register_1 ⟨Nat.le_of_ble_eq_true rfl, Nat.le_of_ble_eq_true rfl⟩) hS (fun r2_z g1_z H locs hp hW hS => ?_)
  obtain ⟨hf1, hp⟩ := hp
  have hf : Fr g g1_z := hf.trans hf1
  obtain ⟨hp, hg⟩ := hp
  subst hg
  rcases hp with ⟨rfl, c3_z⟩ | ⟨rfl, c3_z⟩
  · obtain ⟨i, hi, rfl⟩ := c3_z
    refine n_if_ne (tgt := 17) hx hb (by decide) dX4_register_4 (by decide) (fun _ => ?_) (fun h9 => absurd h9 (by decide))
    refine lv_aload_n hx hb dX4_register_17 rfl (lv_at hl 0 rfl) ?_
    refine r_get M hW 0 0 (lv0 _) (v := .ref (ad 5 0)) rfl rfl i_X4 4 (by decide) k_29 (fun _ h9 => h9) rfl dX4_register_18 ?_
    refine r_get M hW 5 0 (show (0 : Nat) < 2 by decide) (v := .ref (ad 6 0)) rfl rfl i_X1 0 (by decide) k_168 (fun _ h9 => h9) rfl dX4_register_21 ?_
    refine lv_iload_n hx hb dX4_register_24 rfl (lv_at hl 1 rfl) ?_
    refine r_iald M hW 6 0 (show (0 : Nat) < 2 by decide) (n := 3) rfl (Nat.lt_of_le_of_lt (Nat.le_of_lt_succ hi) (by decide)) (by decide) dX4_register_25 ?_
    have b5_z : g 6 0 i ≤ 9972 := hW.2.2.1.le 6 0 i 9971 rfl
    refine vx_ret ?_
    refine W.widen (k := 1) (n := 6) (Nat.le_of_ble_eq_true rfl) (Nat.le_of_ble_eq_true rfl) ?_
    -- path 1
    exact W.iret (v := nI (g 6 0 i)) hx hb hr (fun t ht hW9 => ⟨⟨nI (g 6 0 i), g, rfl, ⟨hf, ⟨i, hi, rfl, rfl, rfl⟩⟩, (show Wd D Z N0 g ad t.heap by rw [ht]; exact hW)⟩, hS.F ht⟩) hS.2.2 dX4_register_26
  · refine n_if_ne (tgt := 17) hx hb (by decide) dX4_register_4 (by decide) (fun h9 => absurd h9 (by decide)) (fun _ => ?_)
    exact k_throw (cls := "java/lang/IndexOutOfBoundsException") (text := "no such register") M hfl hW hS (by decide +kernel) (by decide +kernel) (by decide +kernel) g_IOO n_IOO w_Cond_classLink_RX4_152__java_lang_IndexOutOfBoundsException_ w_Cond_initialized__java_lang_IndexOutOfBoundsException_ s_IOO hl.1 hnt hlocks ⟨rfl, c3_z⟩ dX4_register_7 dX4_register_10 dX4_register_11 dX4_register_13 dX4_register_16 (Nat.le_of_ble_eq_true rfl) (Nat.le_of_ble_eq_true rfl) (Nat.le_of_ble_eq_true rfl) (Nat.le_of_ble_eq_true rfl) (Nat.le_of_ble_eq_true rfl) (Nat.le_of_ble_eq_true rfl)

set_option maxHeartbeats 4000000 in
set_option maxRecDepth 100000 in
theorem c_X4_registerByLog (l : Launch) (hfl : l.stackTraces = false) (D : va_G) (Z : Nat → Nat) (N0 : Nat) (g : T3) (ad : T2) (x : Int32) : vx_Met l yX4_registerByLog wsX4_registerByLog ({ frames := 6, cells := 1, slots := 6, locals := 300 } : Room) (PC D Z N0 g ad [.ref (ad 0 0), .int (x)]) (QI D Z N0 ad (fun (r : Int32) (g1 : T3) => Fr g g1 ∧ (∃ i, i < 3 ∧ x = nI i ∧ r = nI (rbl g 0 i (g 5 0 2)) ∧ g = g1))) (QX D Z N0 g ad (fun E => E = "java/lang/IndexOutOfBoundsException" ∧ ¬ Ix 3 x)) 1 6 (AA N0) := by
  refine vx_ofW (cc := cX4_registerByLog) (maxL := 5) (ret := (some .int)) (by decide) rfl ?_
  intro pP eP sP mP args below meth cP s₁ B hmlP hnt hvP
  obtain ⟨rfl, hW, hC⟩ := hvP
  have hx := B.exec
  have hb := B.bytes
  have hr := B.returns
  have hts := atoms_spec (ws := wsX4_registerByLog) B.pre
  have hown : sP.vm.findClass RX4 = some mP.cls := findClass_of_methodNamed B.named
  have hlocks := B.notSynchronized
  have i_X4 : ∀ w ∈ wsX40, w ∈ wsX4_registerByLog := (fun _ h => List.mem_cons_of_mem _ (List.mem_append_left _ (List.mem_append_left _ (List.mem_append_left _ (List.mem_append_right _ h)))))
  have k_29 : Cond.fieldLink RX4 29 "StartChain" "lastStart" "LStartChain$Pass;" ∈ wsX4_registerByLog := by decide +kernel
  have i_X1 : ∀ w ∈ wsX10, w ∈ wsX4_registerByLog := (fun _ h => List.mem_cons_of_mem _ (List.mem_append_left _ (List.mem_append_left _ (List.mem_append_right _ h))))
  have k_171 : Cond.fieldLink RX4 171 "StartChain$Pass" "entryCount" "I" ∈ wsX4_registerByLog := by decide +kernel
  have k_174 : Cond.fieldLink RX4 174 "StartChain$Pass" "log" "[I" ∈ wsX4_registerByLog := by decide +kernel
  have w_Cond_classLink_RX4_152__java_lang_IndexOutOfBoundsException_ : Cond.classLink RX4 152 "java/lang/IndexOutOfBoundsException" ∈ wsX4_registerByLog := by decide +kernel
  have w_Cond_initialized__java_lang_IndexOutOfBoundsException_ : Cond.initialized "java/lang/IndexOutOfBoundsException" ∈ wsX4_registerByLog := by decide +kernel
  have s_IOO : ∀ w ∈ (vx_atS RX4 156 "java/lang/IndexOutOfBoundsException" thN).filter goodWord, w ∈ wsX4_registerByLog := (fun _ h => List.mem_cons_of_mem _ (List.mem_append_left _ (List.mem_append_right _ h)))
  have M : Mx pP mP cP cX4_registerByLog 5 sP ([.ref (ad 0 0), .int (x)] : List Value).toArray wsX4_registerByLog RX4 D Z N0 := ⟨⟨hx, hb, hmlP, hown, hts⟩, hC⟩
  have hf : Fr g g := Fr.rf g
  have hS : va_S (AA N0) sP.heap sP.heap [] := va_S.rf
  have hl := lv_entry ([.ref (ad 0 0), .int (x)]) (n := 5) (Nat.le_of_ble_eq_true rfl)
  rw [lg_entry_eq]
  generalize (lg_sl ([.ref (ad 0 0), .int (x)]) ++ List.replicate (5 - (lg_sl ([.ref (ad 0 0), .int (x)])).length) Slot.unset).toArray = ls at hl ⊢
  have hl : lv_has ls 5 [(0, .ref (ad 0 0)), (1, .int (x))] := hl
  refine lv_iload_n hx hb dX4_registerByLog_0 rfl (lv_at hl 1 rfl) ?_
  refine k_ci (k_rS (As := [.int (x)]) (rest := []) M hW hS (c_X4_isRegister l D Z N0 g ad (x)) (va_cwS 1 hts gX4_registerByLog_X4_isRegister rfl rfl rfl (by decide +kernel) ⟨Nat.le_of_ble_eq_true rfl, Nat.le_of_ble_eq_true rfl⟩) rfl hl.1 rfl (Nat.le_of_ble_eq_true rfl) dX4_registerByLog_1 ⟨Nat.le_of_ble_eq_true rfl, Nat.le_of_ble_eq_true rfl⟩) hS (fun r2_z g1_z H locs hp hW hS => ?_)
  obtain ⟨hf1, hp⟩ := hp
  have hf : Fr g g1_z := hf.trans hf1
  obtain ⟨hp, hg⟩ := hp
  subst hg
  rcases hp with ⟨rfl, c3_z⟩ | ⟨rfl, c3_z⟩
  · obtain ⟨i, hi, rfl⟩ := c3_z
    refine n_if_ne (tgt := 17) hx hb (by decide) dX4_registerByLog_4 (by decide) (fun _ => ?_) (fun h9 => absurd h9 (by decide))
    refine lv_iconst (v := nI 0) hx hb dX4_registerByLog_17 (by decide) ?_
    refine lv_istore_n (lv' := [(2, .int (nI (0))), (0, .ref (ad 0 0)), (1, .int (nI (i)))]) hx hb dX4_registerByLog_18 rfl hl (by decide) rfl (fun ls hl => ?_)
    refine lv_iconst (v := nI 0) hx hb dX4_registerByLog_19 (by decide) ?_
    refine lv_istore_n (lv' := [(3, .int (nI (0))), (2, .int (nI (0))), (0, .ref (ad 0 0)), (1, .int (nI (i)))]) hx hb dX4_registerByLog_20 rfl hl (by decide) rfl (fun ls hl => ?_)
    refine k_loop (D := D) (Z := Z) (N0 := N0) (ad := ad) (g0 := g) (σ := Nat) (a0 := 0) (g 5 0 2) 5 (0) (fun k gk a => g = gk ∧ (a = rbl g 0 i k)) (fun k a => [(3, .int (nI (k))), (2, .int (nI (a))), (0, .ref (ad 0 0)), (1, .int (nI (i)))]) (Nat.zero_le _) ⟨rfl, rfl⟩ hW hS (lv_sub hl [0, 1, 2, 3] rfl) (fun n k gk a H locs ls hkn hI hW hS hl ih => ?_)
    obtain ⟨hg, hI⟩ := hI
    subst hg
    have ha9 : a ≤ 9972 := by rw [hI]; exact rbl_le _ _ _ _
    refine lv_iload_n hx hb dX4_registerByLog_21 rfl (lv_at hl 0 rfl) ?_
    refine lv_aload_n hx hb dX4_registerByLog_22 rfl (lv_at hl 2 rfl) ?_
    refine r_get M hW 0 0 (lv0 _) (v := .ref (ad 5 0)) rfl rfl i_X4 4 (by decide) k_29 (fun _ h9 => h9) rfl dX4_registerByLog_23 ?_
    have b5_z : g 5 0 2 ≤ 12 := hW.2.2.1.le 5 0 2 11 rfl
    refine r_get M hW 5 0 (show (0 : Nat) < 2 by decide) (v := .int (nI (g 5 0 2))) rfl rfl i_X1 2 (by decide) k_171 (fun _ h9 => h9) rfl dX4_registerByLog_26 ?_
    refine n_icmp_ge (tgt := 70) hx hb (by omega) (Nat.lt_of_le_of_lt b5_z (by decide)) dX4_registerByLog_29 (by decide) (fun c6_z => ?_) (fun c6_z => ?_)
    · refine lv_iload_n hx hb dX4_registerByLog_70 rfl (lv_at hl 1 rfl) ?_
      refine vx_ret ?_
      refine W.widen (k := 1) (n := 6) (Nat.le_of_ble_eq_true rfl) (Nat.le_of_ble_eq_true rfl) ?_
      -- path 1
      exact W.iret (v := nI (a)) hx hb hr (fun t ht hW9 => ⟨⟨nI (a), g, rfl, ⟨hf, ⟨i, hi, rfl, congrArg nI (by rw [hI, show k = g 5 0 2 by omega]), rfl⟩⟩, (show Wd D Z N0 g ad t.heap by rw [ht]; exact hW)⟩, hS.F ht⟩) hS.2.2 dX4_registerByLog_71
    · refine lv_aload_n hx hb dX4_registerByLog_32 rfl (lv_at hl 2 rfl) ?_
      refine r_get M hW 0 0 (lv0 _) (v := .ref (ad 5 0)) rfl rfl i_X4 4 (by decide) k_29 (fun _ h9 => h9) rfl dX4_registerByLog_33 ?_
      refine r_get M hW 5 0 (show (0 : Nat) < 2 by decide) (v := .ref (ad 7 0)) rfl rfl i_X1 1 (by decide) k_174 (fun _ h9 => h9) rfl dX4_registerByLog_36 ?_
      refine lv_iload_n hx hb dX4_registerByLog_39 rfl (lv_at hl 0 rfl) ?_
      refine r_iald M hW 7 0 (show (0 : Nat) < 2 by decide) (n := 12) rfl (by omega) (by decide) dX4_registerByLog_40 ?_
      have b7_z : g 7 0 k ≤ 2999 := hW.2.2.1.le 7 0 k 2998 rfl
      refine lv_istore (lv' := [(4, .int (nI (g 7 0 k))), (3, .int (nI (k))), (2, .int (nI (a))), (0, .ref (ad 0 0)), (1, .int (nI (i)))]) hx hb dX4_registerByLog_41 hl (by decide) rfl (fun ls hl => ?_)
      refine lv_iload hx hb dX4_registerByLog_43 (lv_at hl 0 rfl) ?_
      refine lv_sipush (v := nI 1000) hx hb dX4_registerByLog_45 (by decide) ?_
      refine n_idiv hx hb (Nat.lt_of_le_of_lt b7_z (by decide)) (by decide) (by decide) dX4_registerByLog_48 ?_
      refine lv_iload_n hx hb dX4_registerByLog_49 rfl (lv_at hl 4 rfl) ?_
      refine n_icmp_ne (tgt := 64) hx hb (by omega) (Nat.lt_of_le_of_lt (Nat.le_of_lt_succ hi) (by decide)) dX4_registerByLog_50 (by decide) (fun c8_z => ?_) (fun c8_z => ?_)
      · refine lv_iinc (v := nI (k + 1)) (lv' := [(3, .int (nI (k + 1))), (4, .int (nI (g 7 0 k))), (2, .int (nI (a))), (0, .ref (ad 0 0)), (1, .int (nI (i)))]) hx hb dX4_registerByLog_64 hl (k := 1) rfl (nI_add _ _) (by decide) rfl (fun ls hl => ?_)
        refine lv_goto (tgt := 21) hx hb dX4_registerByLog_67 (by decide) ?_
        exact ih (by omega) g (a) _ _ _ ⟨rfl, (by show _ = (if g 7 0 k / 1000 = i then (31 * rbl g 0 i k + g 7 0 k % 1000 + 1) % 9973 else rbl g 0 i k); rw [if_neg c8_z, ← hI]; try rfl)⟩ hW hS (lv_sub hl [0, 2, 3, 4] rfl)
      · refine lv_iload_n hx hb dX4_registerByLog_53 rfl (lv_at hl 2 rfl) ?_
        refine lv_iload hx hb dX4_registerByLog_54 (lv_at hl 0 rfl) ?_
        refine lv_sipush (v := nI 1000) hx hb dX4_registerByLog_56 (by decide) ?_
        refine n_irem hx hb (Nat.lt_of_le_of_lt b7_z (by decide)) (by decide) (by decide) dX4_registerByLog_59 ?_
        refine k_ci (k_rS (As := [.int (nI (a)), .int (nI ((g 7 0 k) % 1000))]) (rest := []) M hW hS (c_X4_fold l D Z N0 g ad a ((g 7 0 k) % 1000) (show a ≤ 9972 by omega) (show (g 7 0 k) % 1000 ≤ 999 by omega)) (va_cwS 2 hts gX4_registerByLog_X4_fold rfl rfl rfl (by decide +kernel) ⟨Nat.le_of_ble_eq_true rfl, Nat.le_of_ble_eq_true rfl⟩) rfl hl.1 rfl (Nat.le_of_ble_eq_true rfl) dX4_registerByLog_60 ⟨Nat.le_of_ble_eq_true rfl, Nat.le_of_ble_eq_true rfl⟩) hS (fun r10_z g9_z H locs hp hW hS => ?_)
        obtain ⟨hf1, hp⟩ := hp
        have hf : Fr g g9_z := hf.trans hf1
        obtain ⟨rfl, hg⟩ := hp
        subst hg
        have b11_z : (31 * a + ((g 7 0 k) % 1000) + 1) % 9973 ≤ 9972 := by omega
        refine lv_istore_n (lv' := [(2, .int (nI ((31 * a + ((g 7 0 k) % 1000) + 1) % 9973))), (4, .int (nI (g 7 0 k))), (3, .int (nI (k))), (0, .ref (ad 0 0)), (1, .int (nI (i)))]) hx hb dX4_registerByLog_63 rfl hl (by decide) rfl (fun ls hl => ?_)
        refine lv_iinc (v := nI (k + 1)) (lv' := [(3, .int (nI (k + 1))), (2, .int (nI ((31 * a + ((g 7 0 k) % 1000) + 1) % 9973))), (4, .int (nI (g 7 0 k))), (0, .ref (ad 0 0)), (1, .int (nI (i)))]) hx hb dX4_registerByLog_64 hl (k := 2) rfl (nI_add _ _) (by decide) rfl (fun ls hl => ?_)
        refine lv_goto (tgt := 21) hx hb dX4_registerByLog_67 (by decide) ?_
        exact ih (by omega) g ((31 * a + ((g 7 0 k) % 1000) + 1) % 9973) _ _ _ ⟨rfl, (by show _ = (if g 7 0 k / 1000 = i then (31 * rbl g 0 i k + g 7 0 k % 1000 + 1) % 9973 else rbl g 0 i k); rw [if_pos c8_z, ← hI]; try rfl)⟩ hW hS (lv_sub hl [0, 1, 3, 4] rfl)
  · refine n_if_ne (tgt := 17) hx hb (by decide) dX4_registerByLog_4 (by decide) (fun h9 => absurd h9 (by decide)) (fun _ => ?_)
    exact k_throw (cls := "java/lang/IndexOutOfBoundsException") (text := "no such register") M hfl hW hS (by decide +kernel) (by decide +kernel) (by decide +kernel) g_IOO n_IOO w_Cond_classLink_RX4_152__java_lang_IndexOutOfBoundsException_ w_Cond_initialized__java_lang_IndexOutOfBoundsException_ s_IOO hl.1 hnt hlocks ⟨rfl, c3_z⟩ dX4_registerByLog_7 dX4_registerByLog_10 dX4_registerByLog_11 dX4_registerByLog_13 dX4_registerByLog_16 (Nat.le_of_ble_eq_true rfl) (Nat.le_of_ble_eq_true rfl) (Nat.le_of_ble_eq_true rfl) (Nat.le_of_ble_eq_true rfl) (Nat.le_of_ble_eq_true rfl) (Nat.le_of_ble_eq_true rfl)

set_option maxHeartbeats 4000000 in
set_option maxRecDepth 100000 in
theorem c_X4_forecast (l : Launch) (hfl : l.stackTraces = false) (D : va_G) (Z : Nat → Nat) (N0 : Nat) (g : T3) (ad : T2) (x : Int32) : vx_Met l yX4_forecast wsX4_forecast ({ frames := 6, cells := 1, slots := 6, locals := 300 } : Room) (PC D Z N0 g ad [.ref (ad 0 0), .int (x)]) (QI D Z N0 ad (fun (r : Int32) (g1 : T3) => Fr g g1 ∧ (∃ i, i < 3 ∧ x = nI i ∧ ¬ g 3 0 2 = 0 ∧ r = nI (sInto g 1 6 1 i) ∧ g1 = sInto g 1))) (QX D Z N0 g ad (fun E => (E = "java/lang/IndexOutOfBoundsException" ∧ ¬ Ix 3 x) ∨ (E = "java/lang/IllegalStateException" ∧ Ix 3 x ∧ g 3 0 2 = 0))) 1 6 (AA N0) := by
  refine vx_ofW (cc := cX4_forecast) (maxL := 2) (ret := (some .int)) (by decide) rfl ?_
  intro pP eP sP mP args below meth cP s₁ B hmlP hnt hvP
  obtain ⟨rfl, hW, hC⟩ := hvP
  have hx := B.exec
  have hb := B.bytes
  have hr := B.returns
  have hts := atoms_spec (ws := wsX4_forecast) B.pre
  have hown : sP.vm.findClass RX4 = some mP.cls := findClass_of_methodNamed B.named
  have hlocks := B.notSynchronized
  have i_X4 : ∀ w ∈ wsX40, w ∈ wsX4_forecast := (fun _ h => List.mem_cons_of_mem _ (List.mem_append_left _ (List.mem_append_left _ (List.mem_append_left _ (List.mem_append_left _ (List.mem_append_left _ (List.mem_append_left _ (List.mem_append_left _ (List.mem_append_right _ h)))))))))
  have k_16 : Cond.fieldLink RX4 16 "StartChain" "stages" "Ljava/util/ArrayList;" ∈ wsX4_forecast := by decide +kernel
  have w_Cond_classLink_RX4_65__java_lang_IllegalStateException_ : Cond.classLink RX4 65 "java/lang/IllegalStateException" ∈ wsX4_forecast := by decide +kernel
  have w_Cond_initialized__java_lang_IllegalStateException_ : Cond.initialized "java/lang/IllegalStateException" ∈ wsX4_forecast := by decide +kernel
  have s_ISE : ∀ w ∈ (vx_atS RX4 69 "java/lang/IllegalStateException" thN).filter goodWord, w ∈ wsX4_forecast := (fun _ h => List.mem_cons_of_mem _ (List.mem_append_left _ (List.mem_append_right _ h)))
  have k_33 : Cond.fieldLink RX4 33 "StartChain" "lookAhead" "LStartChain$Pass;" ∈ wsX4_forecast := by decide +kernel
  have i_X1 : ∀ w ∈ wsX10, w ∈ wsX4_forecast := (fun _ h => List.mem_cons_of_mem _ (List.mem_append_left _ (List.mem_append_left _ (List.mem_append_left _ (List.mem_append_left _ (List.mem_append_left _ (List.mem_append_left _ (List.mem_append_right _ h))))))))
  have k_168 : Cond.fieldLink RX4 168 "StartChain$Pass" "registers" "[I" ∈ wsX4_forecast := by decide +kernel
  have w_Cond_classLink_RX4_152__java_lang_IndexOutOfBoundsException_ : Cond.classLink RX4 152 "java/lang/IndexOutOfBoundsException" ∈ wsX4_forecast := by decide +kernel
  have w_Cond_initialized__java_lang_IndexOutOfBoundsException_ : Cond.initialized "java/lang/IndexOutOfBoundsException" ∈ wsX4_forecast := by decide +kernel
  have s_IOO : ∀ w ∈ (vx_atS RX4 156 "java/lang/IndexOutOfBoundsException" thN).filter goodWord, w ∈ wsX4_forecast := (fun _ h => List.mem_cons_of_mem _ (List.mem_append_left _ (List.mem_append_left _ (List.mem_append_right _ h))))
  have M : Mx pP mP cP cX4_forecast 2 sP ([.ref (ad 0 0), .int (x)] : List Value).toArray wsX4_forecast RX4 D Z N0 := ⟨⟨hx, hb, hmlP, hown, hts⟩, hC⟩
  have hf : Fr g g := Fr.rf g
  have hS : va_S (AA N0) sP.heap sP.heap [] := va_S.rf
  have hl := lv_entry ([.ref (ad 0 0), .int (x)]) (n := 2) (Nat.le_of_ble_eq_true rfl)
  rw [lg_entry_eq]
  generalize (lg_sl ([.ref (ad 0 0), .int (x)]) ++ List.replicate (2 - (lg_sl ([.ref (ad 0 0), .int (x)])).length) Slot.unset).toArray = ls at hl ⊢
  have hl : lv_has ls 2 [(0, .ref (ad 0 0)), (1, .int (x))] := hl
  refine lv_iload_n hx hb dX4_forecast_0 rfl (lv_at hl 1 rfl) ?_
  refine k_ci (k_rS (As := [.int (x)]) (rest := []) M hW hS (c_X4_isRegister l D Z N0 g ad (x)) (va_cwS 1 hts gX4_forecast_X4_isRegister rfl rfl rfl (by decide +kernel) ⟨Nat.le_of_ble_eq_true rfl, Nat.le_of_ble_eq_true rfl⟩) rfl hl.1 rfl (Nat.le_of_ble_eq_true rfl) dX4_forecast_1 ⟨Nat.le_of_ble_eq_true rfl, Nat.le_of_ble_eq_true rfl⟩) hS (fun r2_z g1_z H locs hp hW hS => ?_)
  obtain ⟨hf1, hp⟩ := hp
  have hf : Fr g g1_z := hf.trans hf1
  obtain ⟨hp, hg⟩ := hp
  subst hg
  rcases hp with ⟨rfl, c3_z⟩ | ⟨rfl, c3_z⟩
  · obtain ⟨i, hi, rfl⟩ := c3_z
    refine n_if_ne (tgt := 17) hx hb (by decide) dX4_forecast_4 (by decide) (fun _ => ?_) (fun h9 => absurd h9 (by decide))
    refine lv_aload_n hx hb dX4_forecast_17 rfl (lv_at hl 0 rfl) ?_
    refine r_get M hW 0 0 (lv0 _) (v := .ref (ad 3 0)) rfl rfl i_X4 1 (by decide) k_16 (fun _ h9 => h9) rfl dX4_forecast_18 ?_
    refine k_ci (k_rV (As := []) (rest := []) M hW hS (c_Jx4a65c_isEmpty_aae02 l D Z N0 g ad 0 (by decide)) (cwV 0 hts gX4_forecast_Jx4a65c_isEmpty_aae02 rfl rfl rfl (by decide +kernel) ⟨Nat.le_of_ble_eq_true rfl, Nat.le_of_ble_eq_true rfl⟩) (r_recv M.2 hW 3 0 (show (0 : Nat) < 2 by decide) rfl rfl) rfl hl.1 rfl (Nat.le_of_ble_eq_true rfl) dX4_forecast_21 ⟨Nat.le_of_ble_eq_true rfl, Nat.le_of_ble_eq_true rfl⟩) hS (fun r6_z g5_z H locs hp hW hS => ?_)
    obtain ⟨hf1, hp⟩ := hp
    have hf : Fr g g5_z := hf.trans hf1
    obtain ⟨hp, hg⟩ := hp
    subst hg
    rcases hp with ⟨rfl, c7_z⟩ | ⟨rfl, c7_z⟩
    · refine n_if_eq (tgt := 37) hx hb (by decide) dX4_forecast_24 (by decide) (fun h9 => absurd h9 (by decide)) (fun _ => ?_)
      exact k_throw (cls := "java/lang/IllegalStateException") (text := "no stages") M hfl hW hS (by decide +kernel) (by decide +kernel) (by decide +kernel) g_ISE n_ISE w_Cond_classLink_RX4_65__java_lang_IllegalStateException_ w_Cond_initialized__java_lang_IllegalStateException_ s_ISE hl.1 hnt hlocks (Or.inr ⟨rfl, ⟨i, hi, rfl⟩, c7_z⟩) dX4_forecast_27 dX4_forecast_30 dX4_forecast_31 dX4_forecast_33 dX4_forecast_36 (Nat.le_of_ble_eq_true rfl) (Nat.le_of_ble_eq_true rfl) (Nat.le_of_ble_eq_true rfl) (Nat.le_of_ble_eq_true rfl) (Nat.le_of_ble_eq_true rfl) (Nat.le_of_ble_eq_true rfl)
    · refine n_if_eq (tgt := 37) hx hb (by decide) dX4_forecast_24 (by decide) (fun _ => ?_) (fun h9 => absurd h9 (by decide))
      refine lv_aload_n hx hb dX4_forecast_37 rfl (lv_at hl 0 rfl) ?_
      refine lv_aload_n hx hb dX4_forecast_38 rfl (lv_at hl 0 rfl) ?_
      refine r_get M hW 0 0 (lv0 _) (v := .ref (ad 5 1)) rfl rfl i_X4 5 (by decide) k_33 (fun _ h9 => h9) rfl dX4_forecast_39 ?_
      refine k_cv (k_rV (As := [.ref (ad 5 1)]) (rest := []) M hW hS (c_X4_startInto l D Z N0 g ad 1 (by decide)) (cwV 1 hts gX4_forecast_X4_startInto rfl rfl rfl (by decide +kernel) ⟨Nat.le_of_ble_eq_true rfl, Nat.le_of_ble_eq_true rfl⟩) (r_recv M.2 hW 0 0 (lv0 _) rfl rfl) rfl hl.1 rfl (Nat.le_of_ble_eq_true rfl) dX4_forecast_42 ⟨Nat.le_of_ble_eq_true rfl, Nat.le_of_ble_eq_true rfl⟩) hS (fun g10_z H locs hp hW hS => ?_)
      obtain ⟨hf1, hp⟩ := hp
      have hf : Fr g g10_z := hf.trans hf1
      have eg10_z : g10_z = sInto g 1 := hp
      refine lv_aload_n hx hb dX4_forecast_45 rfl (lv_at hl 0 rfl) ?_
      refine r_get M hW 0 0 (lv0 _) (v := .ref (ad 5 1)) rfl rfl i_X4 5 (by decide) k_33 (fun _ h9 => h9) rfl dX4_forecast_46 ?_
      refine r_get M hW 5 1 (show (1 : Nat) < 2 by decide) (v := .ref (ad 6 1)) rfl rfl i_X1 0 (by decide) k_168 (fun _ h9 => h9) rfl dX4_forecast_49 ?_
      refine lv_iload_n hx hb dX4_forecast_52 rfl (lv_at hl 1 rfl) ?_
      refine r_iald M hW 6 1 (show (1 : Nat) < 2 by decide) (n := 3) rfl (Nat.lt_of_le_of_lt (Nat.le_of_lt_succ hi) (by decide)) (by decide) dX4_forecast_53 ?_
      have b12_z : g10_z 6 1 i ≤ 9972 := hW.2.2.1.le 6 1 i 9971 rfl
      refine vx_ret ?_
      refine W.widen (k := 1) (n := 6) (Nat.le_of_ble_eq_true rfl) (Nat.le_of_ble_eq_true rfl) ?_
      -- path 1
      exact W.iret (v := nI (g10_z 6 1 i)) hx hb hr (fun t ht hW9 => ⟨⟨nI (g10_z 6 1 i), g10_z, rfl, ⟨hf, ⟨i, hi, rfl, c7_z, by rw [eg10_z], eg10_z⟩⟩, (show Wd D Z N0 g10_z ad t.heap by rw [ht]; exact hW)⟩, hS.F ht⟩) hS.2.2 dX4_forecast_54
  · refine n_if_ne (tgt := 17) hx hb (by decide) dX4_forecast_4 (by decide) (fun h9 => absurd h9 (by decide)) (fun _ => ?_)
    exact k_throw (cls := "java/lang/IndexOutOfBoundsException") (text := "no such register") M hfl hW hS (by decide +kernel) (by decide +kernel) (by decide +kernel) g_IOO n_IOO w_Cond_classLink_RX4_152__java_lang_IndexOutOfBoundsException_ w_Cond_initialized__java_lang_IndexOutOfBoundsException_ s_IOO hl.1 hnt hlocks (Or.inl ⟨rfl, c3_z⟩) dX4_forecast_7 dX4_forecast_10 dX4_forecast_11 dX4_forecast_13 dX4_forecast_16 (Nat.le_of_ble_eq_true rfl) (Nat.le_of_ble_eq_true rfl) (Nat.le_of_ble_eq_true rfl) (Nat.le_of_ble_eq_true rfl) (Nat.le_of_ble_eq_true rfl) (Nat.le_of_ble_eq_true rfl)

set_option maxHeartbeats 4000000 in
set_option maxRecDepth 100000 in
theorem c_X4_entry (l : Launch) (hfl : l.stackTraces = false) (D : va_G) (Z : Nat → Nat) (N0 : Nat) (g : T3) (ad : T2) (x : Int32) : vx_Met l yX4_entry wsX4_entry ({ frames := 6, cells := 1, slots := 6, locals := 300 } : Room) (PC D Z N0 g ad [.ref (ad 0 0), .int (x)]) (QI D Z N0 ad (fun (r : Int32) (g1 : T3) => Fr g g1 ∧ (∃ i, i < g 5 0 2 ∧ x = nI i ∧ r = nI (g 7 0 i) ∧ g = g1))) (QX D Z N0 g ad (fun E => E = "java/lang/IndexOutOfBoundsException" ∧ ¬ Ix (g 5 0 2) x)) 1 6 (AA N0) := by
  refine vx_ofW (cc := cX4_entry) (maxL := 2) (ret := (some .int)) (by decide) rfl ?_
  intro pP eP sP mP args below meth cP s₁ B hmlP hnt hvP
  obtain ⟨rfl, hW, hC⟩ := hvP
  have hx := B.exec
  have hb := B.bytes
  have hr := B.returns
  have hts := atoms_spec (ws := wsX4_entry) B.pre
  have hown : sP.vm.findClass RX4 = some mP.cls := findClass_of_methodNamed B.named
  have hlocks := B.notSynchronized
  have w_Cond_classLink_RX4_152__java_lang_IndexOutOfBoundsException_ : Cond.classLink RX4 152 "java/lang/IndexOutOfBoundsException" ∈ wsX4_entry := by decide +kernel
  have w_Cond_initialized__java_lang_IndexOutOfBoundsException_ : Cond.initialized "java/lang/IndexOutOfBoundsException" ∈ wsX4_entry := by decide +kernel
  have s_IOO : ∀ w ∈ (vx_atS RX4 156 "java/lang/IndexOutOfBoundsException" thN).filter goodWord, w ∈ wsX4_entry := (fun _ h => List.mem_cons_of_mem _ (List.mem_append_left _ (List.mem_append_right _ h)))
  have i_X4 : ∀ w ∈ wsX40, w ∈ wsX4_entry := (fun _ h => List.mem_cons_of_mem _ (List.mem_append_left _ (List.mem_append_left _ (List.mem_append_left _ (List.mem_append_right _ h)))))
  have k_29 : Cond.fieldLink RX4 29 "StartChain" "lastStart" "LStartChain$Pass;" ∈ wsX4_entry := by decide +kernel
  have i_X1 : ∀ w ∈ wsX10, w ∈ wsX4_entry := (fun _ h => List.mem_cons_of_mem _ (List.mem_append_left _ (List.mem_append_left _ (List.mem_append_right _ h))))
  have k_171 : Cond.fieldLink RX4 171 "StartChain$Pass" "entryCount" "I" ∈ wsX4_entry := by decide +kernel
  have k_174 : Cond.fieldLink RX4 174 "StartChain$Pass" "log" "[I" ∈ wsX4_entry := by decide +kernel
  have M : Mx pP mP cP cX4_entry 2 sP ([.ref (ad 0 0), .int (x)] : List Value).toArray wsX4_entry RX4 D Z N0 := ⟨⟨hx, hb, hmlP, hown, hts⟩, hC⟩
  have hf : Fr g g := Fr.rf g
  have hS : va_S (AA N0) sP.heap sP.heap [] := va_S.rf
  have hl := lv_entry ([.ref (ad 0 0), .int (x)]) (n := 2) (Nat.le_of_ble_eq_true rfl)
  rw [lg_entry_eq]
  generalize (lg_sl ([.ref (ad 0 0), .int (x)]) ++ List.replicate (2 - (lg_sl ([.ref (ad 0 0), .int (x)])).length) Slot.unset).toArray = ls at hl ⊢
  have hl : lv_has ls 2 [(0, .ref (ad 0 0)), (1, .int (x))] := hl
  refine lv_iload_n hx hb dX4_entry_0 rfl (lv_at hl 1 rfl) ?_
  refine lv_if_lt (tgt := 15) hx hb dX4_entry_1 (by decide) (fun c1_z => ?_) (fun c1_z => ?_)
  · exact k_throw (cls := "java/lang/IndexOutOfBoundsException") (text := "no such entry") M hfl hW hS (by decide +kernel) (by decide +kernel) (by decide +kernel) g_IOO n_IOO w_Cond_classLink_RX4_152__java_lang_IndexOutOfBoundsException_ w_Cond_initialized__java_lang_IndexOutOfBoundsException_ s_IOO hl.1 hnt hlocks ⟨rfl, fun h => ((ix_raw (Nat.lt_of_le_of_lt (hW.2.2.1.le 5 0 2 11 rfl) (by decide))).mp h).1 c1_z⟩ dX4_entry_15 dX4_entry_18 dX4_entry_19 dX4_entry_21 dX4_entry_24 (Nat.le_of_ble_eq_true rfl) (Nat.le_of_ble_eq_true rfl) (Nat.le_of_ble_eq_true rfl) (Nat.le_of_ble_eq_true rfl) (Nat.le_of_ble_eq_true rfl) (Nat.le_of_ble_eq_true rfl)
  · refine lv_iload_n hx hb dX4_entry_4 rfl (lv_at hl 1 rfl) ?_
    refine lv_aload_n hx hb dX4_entry_5 rfl (lv_at hl 0 rfl) ?_
    refine r_get M hW 0 0 (lv0 _) (v := .ref (ad 5 0)) rfl rfl i_X4 4 (by decide) k_29 (fun _ h9 => h9) rfl dX4_entry_6 ?_
    have b2_z : g 5 0 2 ≤ 12 := hW.2.2.1.le 5 0 2 11 rfl
    refine r_get M hW 5 0 (show (0 : Nat) < 2 by decide) (v := .int (nI (g 5 0 2))) rfl rfl i_X1 2 (by decide) k_171 (fun _ h9 => h9) rfl dX4_entry_9 ?_
    refine lv_icmp_lt (tgt := 25) hx hb dX4_entry_12 (by decide) (fun c3_z => ?_) (fun c3_z => ?_)
    · obtain ⟨i, hi, rfl⟩ := (ix_raw (Nat.lt_of_le_of_lt (hW.2.2.1.le 5 0 2 11 rfl) (by decide))).mpr ⟨c1_z, c3_z⟩
      have hi9 := hW.2.2.1.le 5 0 2 11 rfl
      refine lv_aload_n hx hb dX4_entry_25 rfl (lv_at hl 0 rfl) ?_
      refine r_get M hW 0 0 (lv0 _) (v := .ref (ad 5 0)) rfl rfl i_X4 4 (by decide) k_29 (fun _ h9 => h9) rfl dX4_entry_26 ?_
      refine r_get M hW 5 0 (show (0 : Nat) < 2 by decide) (v := .ref (ad 7 0)) rfl rfl i_X1 1 (by decide) k_174 (fun _ h9 => h9) rfl dX4_entry_29 ?_
      refine lv_iload_n hx hb dX4_entry_32 rfl (lv_at hl 1 rfl) ?_
      refine r_iald M hW 7 0 (show (0 : Nat) < 2 by decide) (n := 12) rfl (by omega) (by decide) dX4_entry_33 ?_
      have b4_z : g 7 0 i ≤ 2999 := hW.2.2.1.le 7 0 i 2998 rfl
      refine vx_ret ?_
      refine W.widen (k := 1) (n := 6) (Nat.le_of_ble_eq_true rfl) (Nat.le_of_ble_eq_true rfl) ?_
      -- path 1
      exact W.iret (v := nI (g 7 0 i)) hx hb hr (fun t ht hW9 => ⟨⟨nI (g 7 0 i), g, rfl, ⟨hf, ⟨i, hi, rfl, rfl, rfl⟩⟩, (show Wd D Z N0 g ad t.heap by rw [ht]; exact hW)⟩, hS.F ht⟩) hS.2.2 dX4_entry_34
    · exact k_throw (cls := "java/lang/IndexOutOfBoundsException") (text := "no such entry") M hfl hW hS (by decide +kernel) (by decide +kernel) (by decide +kernel) g_IOO n_IOO w_Cond_classLink_RX4_152__java_lang_IndexOutOfBoundsException_ w_Cond_initialized__java_lang_IndexOutOfBoundsException_ s_IOO hl.1 hnt hlocks ⟨rfl, fun h => c3_z ((ix_raw (Nat.lt_of_le_of_lt (hW.2.2.1.le 5 0 2 11 rfl) (by decide))).mp h).2⟩ dX4_entry_15 dX4_entry_18 dX4_entry_19 dX4_entry_21 dX4_entry_24 (Nat.le_of_ble_eq_true rfl) (Nat.le_of_ble_eq_true rfl) (Nat.le_of_ble_eq_true rfl) (Nat.le_of_ble_eq_true rfl) (Nat.le_of_ble_eq_true rfl) (Nat.le_of_ble_eq_true rfl)

set_option maxHeartbeats 4000000 in
set_option maxRecDepth 100000 in
theorem c_X4_sealAhead (l : Launch) (hfl : l.stackTraces = false) (D : va_G) (Z : Nat → Nat) (N0 : Nat) (g : T3) (ad : T2) (x : Int32) : vx_Met l yX4_sealAhead wsX4_sealAhead ({ frames := 7, cells := 2, slots := 12, locals := 340 } : Room) (PC D Z N0 g ad [.ref (ad 0 0), .int (x)]) (QI D Z N0 ad (fun (r : Int32) (g1 : T3) => Fr g g1 ∧ (∃ j, j < g 3 1 2 ∧ x = nI j ∧ isO g j ∧ r = nI (oth (sInto g 1) j 1) ∧ g1 = bnT (sInto g 1) j 1))) (QX D Z N0 g ad (fun E => (E = "java/lang/IndexOutOfBoundsException" ∧ ¬ Ix (g 3 1 2) x) ∨ (E = "java/lang/IllegalStateException" ∧ ∃ j, j < g 3 1 2 ∧ x = nI j ∧ ¬ isO g j))) 2 12 (AA N0) := by
  refine vx_ofW (cc := cX4_sealAhead) (maxL := 3) (ret := (some .int)) (by decide) rfl ?_
  intro pP eP sP mP args below meth cP s₁ B hmlP hnt hvP
  obtain ⟨rfl, hW, hC⟩ := hvP
  have hx := B.exec
  have hb := B.bytes
  have hr := B.returns
  have hts := atoms_spec (ws := wsX4_sealAhead) B.pre
  have hown : sP.vm.findClass RX4 = some mP.cls := findClass_of_methodNamed B.named
  have hlocks := B.notSynchronized
  have i_X4 : ∀ w ∈ wsX40, w ∈ wsX4_sealAhead := (fun _ h => List.mem_cons_of_mem _ (List.mem_append_left _ (List.mem_append_left _ (List.mem_append_left _ (List.mem_append_left _ (List.mem_append_left _ (List.mem_append_left _ (List.mem_append_left _ (List.mem_append_left _ (List.mem_append_right _ h))))))))))
  have k_33 : Cond.fieldLink RX4 33 "StartChain" "lookAhead" "LStartChain$Pass;" ∈ wsX4_sealAhead := by decide +kernel
  have i_X1 : ∀ w ∈ wsX10, w ∈ wsX4_sealAhead := (fun _ h => List.mem_cons_of_mem _ (List.mem_append_left _ (List.mem_append_left _ (List.mem_append_left _ (List.mem_append_left _ (List.mem_append_left _ (List.mem_append_left _ (List.mem_append_left _ (List.mem_append_right _ h)))))))))
  have k_168 : Cond.fieldLink RX4 168 "StartChain$Pass" "registers" "[I" ∈ wsX4_sealAhead := by decide +kernel
  have w_Cond_classLink_RX4_65__java_lang_IllegalStateException_ : Cond.classLink RX4 65 "java/lang/IllegalStateException" ∈ wsX4_sealAhead := by decide +kernel
  have w_Cond_initialized__java_lang_IllegalStateException_ : Cond.initialized "java/lang/IllegalStateException" ∈ wsX4_sealAhead := by decide +kernel
  have s_ISE : ∀ w ∈ (vx_atS RX4 69 "java/lang/IllegalStateException" thN).filter goodWord, w ∈ wsX4_sealAhead := (fun _ h => List.mem_cons_of_mem _ (List.mem_append_left _ (List.mem_append_left _ (List.mem_append_right _ h))))
  have M : Mx pP mP cP cX4_sealAhead 3 sP ([.ref (ad 0 0), .int (x)] : List Value).toArray wsX4_sealAhead RX4 D Z N0 := ⟨⟨hx, hb, hmlP, hown, hts⟩, hC⟩
  have hf : Fr g g := Fr.rf g
  have hS : va_S (AA N0) sP.heap sP.heap [] := va_S.rf
  have hl := lv_entry ([.ref (ad 0 0), .int (x)]) (n := 3) (Nat.le_of_ble_eq_true rfl)
  rw [lg_entry_eq]
  generalize (lg_sl ([.ref (ad 0 0), .int (x)]) ++ List.replicate (3 - (lg_sl ([.ref (ad 0 0), .int (x)])).length) Slot.unset).toArray = ls at hl ⊢
  have hl : lv_has ls 3 [(0, .ref (ad 0 0)), (1, .int (x))] := hl
  refine lv_aload_n hx hb dX4_sealAhead_0 rfl (lv_at hl 0 rfl) ?_
  refine lv_iload_n hx hb dX4_sealAhead_1 rfl (lv_at hl 1 rfl) ?_
  refine k_xr (k_xV (As := [.int (x)]) (rest := []) M hW hS (c_X4_secretAt l hfl D Z N0 g ad (x)) (cwV 1 hts gX4_sealAhead_X4_secretAt rfl rfl rfl (by decide +kernel) ⟨Nat.le_of_ble_eq_true rfl, Nat.le_of_ble_eq_true rfl⟩) (r_recv M.2 hW 0 0 (lv0 _) rfl rfl) rfl hl.1 rfl (Nat.le_of_ble_eq_true rfl) dX4_sealAhead_2 ⟨Nat.le_of_ble_eq_true rfl, Nat.le_of_ble_eq_true rfl⟩) hS (fun E ce q9 H locs hp hW hS hq9 => ?_) (fun r2_z g1_z H locs hp hW hS => ?_)
  · exact k_out (Or.inl hp) hW hS hq9 hnt hlocks (Nat.le_of_ble_eq_true rfl) (Nat.le_of_ble_eq_true rfl)
  · obtain ⟨hf1, hp⟩ := hp
    have hf : Fr g g1_z := hf.trans hf1
    obtain ⟨i3_z, hi3_z, hxe, hre, hg⟩ := hp
    subst hg
    subst hxe
    subst hre
    have hli3_z : lv g 13 i3_z := Nat.lt_of_lt_of_le hi3_z (hW.2.2.2 1 (by decide)).1
    refine lv_astore_n (lv' := [(2, .ref (ad 13 i3_z)), (0, .ref (ad 0 0)), (1, .int (nI (i3_z)))]) hx hb dX4_sealAhead_5 rfl hl (by decide) rfl (fun ls hl => ?_)
    refine lv_aload_n hx hb dX4_sealAhead_6 rfl (lv_at hl 1 rfl) ?_
    refine lv_aload_n hx hb dX4_sealAhead_7 rfl (lv_at hl 0 rfl) ?_
    refine k_ci (k_rV (As := [.ref (ad 13 i3_z)]) (rest := []) M hW hS (c_X4_isOpen l D Z N0 g ad i3_z (hf.lv hli3_z)) (cwV 1 hts gX4_sealAhead_X4_isOpen rfl rfl rfl (by decide +kernel) ⟨Nat.le_of_ble_eq_true rfl, Nat.le_of_ble_eq_true rfl⟩) (r_recv M.2 hW 0 0 (lv0 _) rfl rfl) rfl hl.1 rfl (Nat.le_of_ble_eq_true rfl) dX4_sealAhead_8 ⟨Nat.le_of_ble_eq_true rfl, Nat.le_of_ble_eq_true rfl⟩) hS (fun r5_z g4_z H locs hp hW hS => ?_)
    obtain ⟨hf1, hp⟩ := hp
    have hf : Fr g g4_z := hf.trans hf1
    obtain ⟨hp, hg⟩ := hp
    subst hg
    rcases hp with ⟨rfl, c6_z⟩ | ⟨rfl, c6_z⟩
    · refine n_if_ne (tgt := 24) hx hb (by decide) dX4_sealAhead_11 (by decide) (fun _ => ?_) (fun h9 => absurd h9 (by decide))
      refine lv_aload_n hx hb dX4_sealAhead_24 rfl (lv_at hl 1 rfl) ?_
      refine lv_aload_n hx hb dX4_sealAhead_25 rfl (lv_at hl 1 rfl) ?_
      refine r_get M hW 0 0 (lv0 _) (v := .ref (ad 5 1)) rfl rfl i_X4 5 (by decide) k_33 (fun _ h9 => h9) rfl dX4_sealAhead_26 ?_
      refine k_cv (k_rV (As := [.ref (ad 5 1)]) (rest := []) M hW hS (c_X4_startInto l D Z N0 g ad 1 (by decide)) (cwV 1 hts gX4_sealAhead_X4_startInto rfl rfl rfl (by decide +kernel) ⟨Nat.le_of_ble_eq_true rfl, Nat.le_of_ble_eq_true rfl⟩) (r_recv M.2 hW 0 0 (lv0 _) rfl rfl) rfl hl.1 rfl (Nat.le_of_ble_eq_true rfl) dX4_sealAhead_29 ⟨Nat.le_of_ble_eq_true rfl, Nat.le_of_ble_eq_true rfl⟩) hS (fun g8_z H locs hp hW hS => ?_)
      obtain ⟨hf1, hp⟩ := hp
      have hf : Fr g g8_z := hf.trans hf1
      have eg8_z : g8_z = sInto g 1 := hp
      refine lv_aload_n hx hb dX4_sealAhead_32 rfl (lv_at hl 0 rfl) ?_
      refine lv_aload_n hx hb dX4_sealAhead_33 rfl (lv_at hl 1 rfl) ?_
      refine r_get M hW 0 0 (lv0 _) (v := .ref (ad 5 1)) rfl rfl i_X4 5 (by decide) k_33 (fun _ h9 => h9) rfl dX4_sealAhead_34 ?_
      refine r_get M hW 5 1 (show (1 : Nat) < 2 by decide) (v := .ref (ad 6 1)) rfl rfl i_X1 0 (by decide) k_168 (fun _ h9 => h9) rfl dX4_sealAhead_37 ?_
      refine k_ci (k_rV (As := [.ref (ad 6 1)]) (rest := []) M hW hS (c_X2_bindTo l D Z N0 g8_z ad i3_z 1 (hf.lv hli3_z) (by decide)) (cwV 1 hts gX4_sealAhead_X2_bindTo rfl rfl rfl (by decide +kernel) ⟨Nat.le_of_ble_eq_true rfl, Nat.le_of_ble_eq_true rfl⟩) (r_recv M.2 hW 13 i3_z (hf.lv hli3_z) rfl rfl) rfl hl.1 rfl (Nat.le_of_ble_eq_true rfl) dX4_sealAhead_40 ⟨Nat.le_of_ble_eq_true rfl, Nat.le_of_ble_eq_true rfl⟩) hS (fun r11_z g10_z H locs hp hW hS => ?_)
      obtain ⟨hf1, hp⟩ := hp
      have hf : Fr g g10_z := hf.trans hf1
      obtain ⟨rfl, eg10_z⟩ := hp
      refine vx_ret ?_
      refine W.widen (k := 2) (n := 12) (Nat.le_of_ble_eq_true rfl) (Nat.le_of_ble_eq_true rfl) ?_
      -- path 1
      exact W.iret (v := nI (oth g8_z i3_z 1)) hx hb hr (fun t ht hW9 => ⟨⟨nI (oth g8_z i3_z 1), g10_z, rfl, ⟨hf, ⟨i3_z, hi3_z, rfl, c6_z, by rw [eg8_z], by rw [eg10_z, eg8_z]⟩⟩, (show Wd D Z N0 g10_z ad t.heap by rw [ht]; exact hW)⟩, hS.F ht⟩) hS.2.2 dX4_sealAhead_43
    · refine n_if_ne (tgt := 24) hx hb (by decide) dX4_sealAhead_11 (by decide) (fun h9 => absurd h9 (by decide)) (fun _ => ?_)
      exact k_throw (cls := "java/lang/IllegalStateException") (text := "the secret does not open") M hfl hW hS (by decide +kernel) (by decide +kernel) (by decide +kernel) g_ISE n_ISE w_Cond_classLink_RX4_65__java_lang_IllegalStateException_ w_Cond_initialized__java_lang_IllegalStateException_ s_ISE hl.1 hnt hlocks (Or.inr ⟨rfl, i3_z, hi3_z, rfl, c6_z⟩) dX4_sealAhead_14 dX4_sealAhead_17 dX4_sealAhead_18 dX4_sealAhead_20 dX4_sealAhead_23 (Nat.le_of_ble_eq_true rfl) (Nat.le_of_ble_eq_true rfl) (Nat.le_of_ble_eq_true rfl) (Nat.le_of_ble_eq_true rfl) (Nat.le_of_ble_eq_true rfl) (Nat.le_of_ble_eq_true rfl)

set_option maxHeartbeats 4000000 in
set_option maxRecDepth 100000 in
theorem c_X4_opens (l : Launch) (hfl : l.stackTraces = false) (D : va_G) (Z : Nat → Nat) (N0 : Nat) (g : T3) (ad : T2) (x : Int32) : vx_Met l yX4_opens wsX4_opens ({ frames := 7, cells := 1, slots := 6, locals := 340 } : Room) (PC D Z N0 g ad [.ref (ad 0 0), .int (x)]) (QI D Z N0 ad (fun (r : Int32) (g1 : T3) => Fr g g1 ∧ (∃ j, j < g 3 1 2 ∧ x = nI j ∧ bP r (isO g j) ∧ g = g1))) (QX D Z N0 g ad (fun E => E = "java/lang/IndexOutOfBoundsException" ∧ ¬ Ix (g 3 1 2) x)) 1 6 (AA N0) := by
  refine vx_ofW (cc := cX4_opens) (maxL := 2) (ret := (some .boolean)) (by decide) rfl ?_
  intro pP eP sP mP args below meth cP s₁ B hmlP hnt hvP
  obtain ⟨rfl, hW, hC⟩ := hvP
  have hx := B.exec
  have hb := B.bytes
  have hr := B.returns
  have hts := atoms_spec (ws := wsX4_opens) B.pre
  have hown : sP.vm.findClass RX4 = some mP.cls := findClass_of_methodNamed B.named
  have hlocks := B.notSynchronized
  have M : Mx pP mP cP cX4_opens 2 sP ([.ref (ad 0 0), .int (x)] : List Value).toArray wsX4_opens RX4 D Z N0 := ⟨⟨hx, hb, hmlP, hown, hts⟩, hC⟩
  have hf : Fr g g := Fr.rf g
  have hS : va_S (AA N0) sP.heap sP.heap [] := va_S.rf
  have hl := lv_entry ([.ref (ad 0 0), .int (x)]) (n := 2) (Nat.le_of_ble_eq_true rfl)
  rw [lg_entry_eq]
  generalize (lg_sl ([.ref (ad 0 0), .int (x)]) ++ List.replicate (2 - (lg_sl ([.ref (ad 0 0), .int (x)])).length) Slot.unset).toArray = ls at hl ⊢
  have hl : lv_has ls 2 [(0, .ref (ad 0 0)), (1, .int (x))] := hl
  refine lv_aload_n hx hb dX4_opens_0 rfl (lv_at hl 0 rfl) ?_
  refine lv_aload_n hx hb dX4_opens_1 rfl (lv_at hl 0 rfl) ?_
  refine lv_iload_n hx hb dX4_opens_2 rfl (lv_at hl 1 rfl) ?_
  refine k_xr (k_xV (As := [.int (x)]) (rest := [.ref (ad 0 0)]) M hW hS (c_X4_secretAt l hfl D Z N0 g ad (x)) (cwV 1 hts gX4_opens_X4_secretAt rfl rfl rfl (by decide +kernel) ⟨Nat.le_of_ble_eq_true rfl, Nat.le_of_ble_eq_true rfl⟩) (r_recv M.2 hW 0 0 (lv0 _) rfl rfl) rfl hl.1 rfl (Nat.le_of_ble_eq_true rfl) dX4_opens_3 ⟨Nat.le_of_ble_eq_true rfl, Nat.le_of_ble_eq_true rfl⟩) hS (fun E ce q9 H locs hp hW hS hq9 => ?_) (fun r2_z g1_z H locs hp hW hS => ?_)
  · exact k_out hp hW hS hq9 hnt hlocks (Nat.le_of_ble_eq_true rfl) (Nat.le_of_ble_eq_true rfl)
  · obtain ⟨hf1, hp⟩ := hp
    have hf : Fr g g1_z := hf.trans hf1
    obtain ⟨i3_z, hi3_z, hxe, hre, hg⟩ := hp
    subst hg
    subst hxe
    subst hre
    have hli3_z : lv g 13 i3_z := Nat.lt_of_lt_of_le hi3_z (hW.2.2.2 1 (by decide)).1
    refine k_ci (k_rV (As := [.ref (ad 13 i3_z)]) (rest := []) M hW hS (c_X4_isOpen l D Z N0 g ad i3_z (hf.lv hli3_z)) (cwV 1 hts gX4_opens_X4_isOpen rfl rfl rfl (by decide +kernel) ⟨Nat.le_of_ble_eq_true rfl, Nat.le_of_ble_eq_true rfl⟩) (r_recv M.2 hW 0 0 (lv0 _) rfl rfl) rfl hl.1 rfl (Nat.le_of_ble_eq_true rfl) dX4_opens_6 ⟨Nat.le_of_ble_eq_true rfl, Nat.le_of_ble_eq_true rfl⟩) hS (fun r5_z g4_z H locs hp hW hS => ?_)
    obtain ⟨hf1, hp⟩ := hp
    have hf : Fr g g4_z := hf.trans hf1
    obtain ⟨hp, hg⟩ := hp
    subst hg
    rcases hp with ⟨rfl, c6_z⟩ | ⟨rfl, c6_z⟩
    · refine vx_ret ?_
      refine W.widen (k := 1) (n := 6) (Nat.le_of_ble_eq_true rfl) (Nat.le_of_ble_eq_true rfl) ?_
      -- path 1
      exact W.zret (v := nI (1)) (ty := .boolean) hx hb hr (nar_b (show 1 ≤ 1 by decide)) (fun t ht hW9 => ⟨⟨nI (1), g, rfl, ⟨hf, ⟨i3_z, hi3_z, rfl, Or.inl ⟨rfl, c6_z⟩, rfl⟩⟩, (show Wd D Z N0 g ad t.heap by rw [ht]; exact hW)⟩, hS.F ht⟩) hS.2.2 dX4_opens_9
    · refine vx_ret ?_
      refine W.widen (k := 1) (n := 6) (Nat.le_of_ble_eq_true rfl) (Nat.le_of_ble_eq_true rfl) ?_
      -- path 2
      exact W.zret (v := nI (0)) (ty := .boolean) hx hb hr (nar_b (show 0 ≤ 1 by decide)) (fun t ht hW9 => ⟨⟨nI (0), g, rfl, ⟨hf, ⟨i3_z, hi3_z, rfl, Or.inr ⟨rfl, c6_z⟩, rfl⟩⟩, (show Wd D Z N0 g ad t.heap by rw [ht]; exact hW)⟩, hS.F ht⟩) hS.2.2 dX4_opens_9

set_option maxHeartbeats 4000000 in
set_option maxRecDepth 100000 in
theorem c_X4_isLost (l : Launch) (hfl : l.stackTraces = false) (D : va_G) (Z : Nat → Nat) (N0 : Nat) (g : T3) (ad : T2) (x : Int32) : vx_Met l yX4_isLost wsX4_isLost ({ frames := 7, cells := 1, slots := 6, locals := 340 } : Room) (PC D Z N0 g ad [.ref (ad 0 0), .int (x)]) (QI D Z N0 ad (fun (r : Int32) (g1 : T3) => Fr g g1 ∧ (∃ j, j < g 3 1 2 ∧ x = nI j ∧ bP r (¬ (sInto g 1 5 1 5 = sInto g 1 3 0 2 ∧ oth (sInto g 1) j 1 = 0)) ∧ g1 = sInto g 1))) (QX D Z N0 g ad (fun E => E = "java/lang/IndexOutOfBoundsException" ∧ ¬ Ix (g 3 1 2) x)) 1 6 (AA N0) := by
  refine vx_ofW (cc := cX4_isLost) (maxL := 3) (ret := (some .boolean)) (by decide) rfl ?_
  intro pP eP sP mP args below meth cP s₁ B hmlP hnt hvP
  obtain ⟨rfl, hW, hC⟩ := hvP
  have hx := B.exec
  have hb := B.bytes
  have hr := B.returns
  have hts := atoms_spec (ws := wsX4_isLost) B.pre
  have hown : sP.vm.findClass RX4 = some mP.cls := findClass_of_methodNamed B.named
  have hlocks := B.notSynchronized
  have i_X4 : ∀ w ∈ wsX40, w ∈ wsX4_isLost := (fun _ h => List.mem_cons_of_mem _ (List.mem_append_left _ (List.mem_append_left _ (List.mem_append_left _ (List.mem_append_left _ (List.mem_append_left _ (List.mem_append_left _ (List.mem_append_left _ (List.mem_append_right _ h)))))))))
  have k_33 : Cond.fieldLink RX4 33 "StartChain" "lookAhead" "LStartChain$Pass;" ∈ wsX4_isLost := by decide +kernel
  have i_X1 : ∀ w ∈ wsX10, w ∈ wsX4_isLost := (fun _ h => List.mem_cons_of_mem _ (List.mem_append_left _ (List.mem_append_left _ (List.mem_append_left _ (List.mem_append_left _ (List.mem_append_left _ (List.mem_append_left _ (List.mem_append_right _ h))))))))
  have k_168 : Cond.fieldLink RX4 168 "StartChain$Pass" "registers" "[I" ∈ wsX4_isLost := by decide +kernel
  have M : Mx pP mP cP cX4_isLost 3 sP ([.ref (ad 0 0), .int (x)] : List Value).toArray wsX4_isLost RX4 D Z N0 := ⟨⟨hx, hb, hmlP, hown, hts⟩, hC⟩
  have hf : Fr g g := Fr.rf g
  have hS : va_S (AA N0) sP.heap sP.heap [] := va_S.rf
  have hl := lv_entry ([.ref (ad 0 0), .int (x)]) (n := 3) (Nat.le_of_ble_eq_true rfl)
  rw [lg_entry_eq]
  generalize (lg_sl ([.ref (ad 0 0), .int (x)]) ++ List.replicate (3 - (lg_sl ([.ref (ad 0 0), .int (x)])).length) Slot.unset).toArray = ls at hl ⊢
  have hl : lv_has ls 3 [(0, .ref (ad 0 0)), (1, .int (x))] := hl
  refine lv_aload_n hx hb dX4_isLost_0 rfl (lv_at hl 0 rfl) ?_
  refine lv_iload_n hx hb dX4_isLost_1 rfl (lv_at hl 1 rfl) ?_
  refine k_xr (k_xV (As := [.int (x)]) (rest := []) M hW hS (c_X4_secretAt l hfl D Z N0 g ad (x)) (cwV 1 hts gX4_isLost_X4_secretAt rfl rfl rfl (by decide +kernel) ⟨Nat.le_of_ble_eq_true rfl, Nat.le_of_ble_eq_true rfl⟩) (r_recv M.2 hW 0 0 (lv0 _) rfl rfl) rfl hl.1 rfl (Nat.le_of_ble_eq_true rfl) dX4_isLost_2 ⟨Nat.le_of_ble_eq_true rfl, Nat.le_of_ble_eq_true rfl⟩) hS (fun E ce q9 H locs hp hW hS hq9 => ?_) (fun r2_z g1_z H locs hp hW hS => ?_)
  · exact k_out hp hW hS hq9 hnt hlocks (Nat.le_of_ble_eq_true rfl) (Nat.le_of_ble_eq_true rfl)
  · obtain ⟨hf1, hp⟩ := hp
    have hf : Fr g g1_z := hf.trans hf1
    obtain ⟨i3_z, hi3_z, hxe, hre, hg⟩ := hp
    subst hg
    subst hxe
    subst hre
    have hli3_z : lv g 13 i3_z := Nat.lt_of_lt_of_le hi3_z (hW.2.2.2 1 (by decide)).1
    refine lv_astore_n (lv' := [(2, .ref (ad 13 i3_z)), (0, .ref (ad 0 0)), (1, .int (nI (i3_z)))]) hx hb dX4_isLost_5 rfl hl (by decide) rfl (fun ls hl => ?_)
    refine lv_aload_n hx hb dX4_isLost_6 rfl (lv_at hl 1 rfl) ?_
    refine lv_aload_n hx hb dX4_isLost_7 rfl (lv_at hl 1 rfl) ?_
    refine r_get M hW 0 0 (lv0 _) (v := .ref (ad 5 1)) rfl rfl i_X4 5 (by decide) k_33 (fun _ h9 => h9) rfl dX4_isLost_8 ?_
    refine k_cv (k_rV (As := [.ref (ad 5 1)]) (rest := []) M hW hS (c_X4_startInto l D Z N0 g ad 1 (by decide)) (cwV 1 hts gX4_isLost_X4_startInto rfl rfl rfl (by decide +kernel) ⟨Nat.le_of_ble_eq_true rfl, Nat.le_of_ble_eq_true rfl⟩) (r_recv M.2 hW 0 0 (lv0 _) rfl rfl) rfl hl.1 rfl (Nat.le_of_ble_eq_true rfl) dX4_isLost_11 ⟨Nat.le_of_ble_eq_true rfl, Nat.le_of_ble_eq_true rfl⟩) hS (fun g4_z H locs hp hW hS => ?_)
    obtain ⟨hf1, hp⟩ := hp
    have hf : Fr g g4_z := hf.trans hf1
    have eg4_z : g4_z = sInto g 1 := hp
    refine lv_aload_n hx hb dX4_isLost_14 rfl (lv_at hl 1 rfl) ?_
    refine lv_aload_n hx hb dX4_isLost_15 rfl (lv_at hl 1 rfl) ?_
    refine r_get M hW 0 0 (lv0 _) (v := .ref (ad 5 1)) rfl rfl i_X4 5 (by decide) k_33 (fun _ h9 => h9) rfl dX4_isLost_16 ?_
    refine k_ci (k_rV (As := [.ref (ad 5 1)]) (rest := []) M hW hS (c_X4_allRan l D Z N0 g4_z ad 1 (by decide)) (cwV 1 hts gX4_isLost_X4_allRan rfl rfl rfl (by decide +kernel) ⟨Nat.le_of_ble_eq_true rfl, Nat.le_of_ble_eq_true rfl⟩) (r_recv M.2 hW 0 0 (lv0 _) rfl rfl) rfl hl.1 rfl (Nat.le_of_ble_eq_true rfl) dX4_isLost_19 ⟨Nat.le_of_ble_eq_true rfl, Nat.le_of_ble_eq_true rfl⟩) hS (fun r7_z g6_z H locs hp hW hS => ?_)
    obtain ⟨hf1, hp⟩ := hp
    have hf : Fr g g6_z := hf.trans hf1
    obtain ⟨hp, hg⟩ := hp
    subst hg
    rcases hp with ⟨rfl, c8_z⟩ | ⟨rfl, c8_z⟩
    · refine n_if_eq (tgt := 39) hx hb (by decide) dX4_isLost_22 (by decide) (fun h9 => absurd h9 (by decide)) (fun _ => ?_)
      refine lv_aload_n hx hb dX4_isLost_25 rfl (lv_at hl 0 rfl) ?_
      refine lv_aload_n hx hb dX4_isLost_26 rfl (lv_at hl 1 rfl) ?_
      refine r_get M hW 0 0 (lv0 _) (v := .ref (ad 5 1)) rfl rfl i_X4 5 (by decide) k_33 (fun _ h9 => h9) rfl dX4_isLost_27 ?_
      refine r_get M hW 5 1 (show (1 : Nat) < 2 by decide) (v := .ref (ad 6 1)) rfl rfl i_X1 0 (by decide) k_168 (fun _ h9 => h9) rfl dX4_isLost_30 ?_
      refine k_ci (k_rV (As := [.ref (ad 6 1)]) (rest := []) M hW hS (c_X2_fits l D Z N0 g4_z ad i3_z 1 (hf.lv hli3_z) (by decide)) (cwV 1 hts gX4_isLost_X2_fits rfl rfl rfl (by decide +kernel) ⟨Nat.le_of_ble_eq_true rfl, Nat.le_of_ble_eq_true rfl⟩) (r_recv M.2 hW 13 i3_z (hf.lv hli3_z) rfl rfl) rfl hl.1 rfl (Nat.le_of_ble_eq_true rfl) dX4_isLost_33 ⟨Nat.le_of_ble_eq_true rfl, Nat.le_of_ble_eq_true rfl⟩) hS (fun r11_z g10_z H locs hp hW hS => ?_)
      obtain ⟨hf1, hp⟩ := hp
      have hf : Fr g g10_z := hf.trans hf1
      obtain ⟨hp, hg⟩ := hp
      subst hg
      rcases hp with ⟨rfl, c12_z⟩ | ⟨rfl, c12_z⟩
      · refine n_if_ne (tgt := 43) hx hb (by decide) dX4_isLost_36 (by decide) (fun _ => ?_) (fun h9 => absurd h9 (by decide))
        refine lv_iconst (v := nI 0) hx hb dX4_isLost_43 (by decide) ?_
        refine vx_ret ?_
        refine W.widen (k := 1) (n := 6) (Nat.le_of_ble_eq_true rfl) (Nat.le_of_ble_eq_true rfl) ?_
        -- path 1
        exact W.zret (v := nI (0)) (ty := .boolean) hx hb hr (nar_b (show 0 ≤ 1 by decide)) (fun t ht hW9 => ⟨⟨nI (0), g4_z, rfl, ⟨hf, (by subst eg4_z; exact ⟨i3_z, hi3_z, rfl, Or.inr ⟨rfl, fun h => h ⟨c8_z, c12_z⟩⟩, rfl⟩)⟩, (show Wd D Z N0 g4_z ad t.heap by rw [ht]; exact hW)⟩, hS.F ht⟩) hS.2.2 dX4_isLost_44
      · refine n_if_ne (tgt := 43) hx hb (by decide) dX4_isLost_36 (by decide) (fun h9 => absurd h9 (by decide)) (fun _ => ?_)
        refine lv_iconst (v := nI 1) hx hb dX4_isLost_39 (by decide) ?_
        refine lv_goto (tgt := 44) hx hb dX4_isLost_40 (by decide) ?_
        refine vx_ret ?_
        refine W.widen (k := 1) (n := 6) (Nat.le_of_ble_eq_true rfl) (Nat.le_of_ble_eq_true rfl) ?_
        -- path 2
        exact W.zret (v := nI (1)) (ty := .boolean) hx hb hr (nar_b (show 1 ≤ 1 by decide)) (fun t ht hW9 => ⟨⟨nI (1), g4_z, rfl, ⟨hf, (by subst eg4_z; exact ⟨i3_z, hi3_z, rfl, Or.inl ⟨rfl, fun h => c12_z h.2⟩, rfl⟩)⟩, (show Wd D Z N0 g4_z ad t.heap by rw [ht]; exact hW)⟩, hS.F ht⟩) hS.2.2 dX4_isLost_44
    · refine n_if_eq (tgt := 39) hx hb (by decide) dX4_isLost_22 (by decide) (fun _ => ?_) (fun h9 => absurd h9 (by decide))
      refine lv_iconst (v := nI 1) hx hb dX4_isLost_39 (by decide) ?_
      refine lv_goto (tgt := 44) hx hb dX4_isLost_40 (by decide) ?_
      refine vx_ret ?_
      refine W.widen (k := 1) (n := 6) (Nat.le_of_ble_eq_true rfl) (Nat.le_of_ble_eq_true rfl) ?_
      -- path 3
      exact W.zret (v := nI (1)) (ty := .boolean) hx hb hr (nar_b (show 1 ≤ 1 by decide)) (fun t ht hW9 => ⟨⟨nI (1), g4_z, rfl, ⟨hf, (by subst eg4_z; exact ⟨i3_z, hi3_z, rfl, Or.inl ⟨rfl, fun h => c8_z h.1⟩, rfl⟩)⟩, (show Wd D Z N0 g4_z ad t.heap by rw [ht]; exact hW)⟩, hS.F ht⟩) hS.2.2 dX4_isLost_44

set_option maxHeartbeats 4000000 in
set_option maxRecDepth 100000 in
theorem c_X4_setAgreed (l : Launch) (hfl : l.stackTraces = false) (D : va_G) (Z : Nat → Nat) (N0 : Nat) (g : T3) (ad : T2) (x : Int32) (b : Nat) (hb1 : b ≤ 1) : vx_Met l yX4_setAgreed wsX4_setAgreed ({ frames := 6, cells := 1, slots := 6, locals := 300 } : Room) (PC D Z N0 g ad [.ref (ad 0 0), .int (x), .int (nI (b))]) (QI D Z N0 ad (fun (r : Int32) (g1 : T3) => Fr g g1 ∧ (∃ i, i < 5 ∧ x = nI i ∧ r = nI (cAg (up g 2 0 i b)) ∧ g1 = up g 2 0 i b))) (QX D Z N0 g ad (fun E => E = "java/lang/IndexOutOfBoundsException" ∧ ¬ Ix 5 x)) 1 6 (AA N0) := by
  refine vx_ofW (cc := cX4_setAgreed) (maxL := 3) (ret := (some .int)) (by decide) rfl ?_
  intro pP eP sP mP args below meth cP s₁ B hmlP hnt hvP
  obtain ⟨rfl, hW, hC⟩ := hvP
  have hx := B.exec
  have hb := B.bytes
  have hr := B.returns
  have hts := atoms_spec (ws := wsX4_setAgreed) B.pre
  have hown : sP.vm.findClass RX4 = some mP.cls := findClass_of_methodNamed B.named
  have hlocks := B.notSynchronized
  have i_X4 : ∀ w ∈ wsX40, w ∈ wsX4_setAgreed := (fun _ h => List.mem_cons_of_mem _ (List.mem_append_left _ (List.mem_append_left _ (List.mem_append_right _ h))))
  have k_23 : Cond.fieldLink RX4 23 "StartChain" "agreed" "[Z" ∈ wsX4_setAgreed := by decide +kernel
  have w_Cond_classLink_RX4_152__java_lang_IndexOutOfBoundsException_ : Cond.classLink RX4 152 "java/lang/IndexOutOfBoundsException" ∈ wsX4_setAgreed := by decide +kernel
  have w_Cond_initialized__java_lang_IndexOutOfBoundsException_ : Cond.initialized "java/lang/IndexOutOfBoundsException" ∈ wsX4_setAgreed := by decide +kernel
  have s_IOO : ∀ w ∈ (vx_atS RX4 156 "java/lang/IndexOutOfBoundsException" thN).filter goodWord, w ∈ wsX4_setAgreed := (fun _ h => List.mem_cons_of_mem _ (List.mem_append_left _ (List.mem_append_right _ h)))
  have M : Mx pP mP cP cX4_setAgreed 3 sP ([.ref (ad 0 0), .int (x), .int (nI (b))] : List Value).toArray wsX4_setAgreed RX4 D Z N0 := ⟨⟨hx, hb, hmlP, hown, hts⟩, hC⟩
  have hf : Fr g g := Fr.rf g
  have hS : va_S (AA N0) sP.heap sP.heap [] := va_S.rf
  have hl := lv_entry ([.ref (ad 0 0), .int (x), .int (nI (b))]) (n := 3) (Nat.le_of_ble_eq_true rfl)
  rw [lg_entry_eq]
  generalize (lg_sl ([.ref (ad 0 0), .int (x), .int (nI (b))]) ++ List.replicate (3 - (lg_sl ([.ref (ad 0 0), .int (x), .int (nI (b))])).length) Slot.unset).toArray = ls at hl ⊢
  have hl : lv_has ls 3 [(0, .ref (ad 0 0)), (1, .int (x)), (2, .int (nI (b)))] := hl
  refine lv_iload_n hx hb dX4_setAgreed_0 rfl (lv_at hl 1 rfl) ?_
  refine lv_iconst (v := nI 0) hx hb dX4_setAgreed_1 (by decide) ?_
  refine lv_iconst (v := nI 4) hx hb dX4_setAgreed_2 (by decide) ?_
  refine k_ci (k_rS (As := [.int (x), .int (nI (0)), .int (nI (4))]) (rest := []) M hW hS (c_X4_isWithin l D Z N0 g ad (x) (nI (0)) (nI (4))) (va_cwS 3 hts gX4_setAgreed_X4_isWithin rfl rfl rfl (by decide +kernel) ⟨Nat.le_of_ble_eq_true rfl, Nat.le_of_ble_eq_true rfl⟩) rfl hl.1 rfl (Nat.le_of_ble_eq_true rfl) dX4_setAgreed_3 ⟨Nat.le_of_ble_eq_true rfl, Nat.le_of_ble_eq_true rfl⟩) hS (fun r2_z g1_z H locs hp hW hS => ?_)
  obtain ⟨hf1, hp⟩ := hp
  have hf : Fr g g1_z := hf.trans hf1
  obtain ⟨hp, hg⟩ := hp
  subst hg
  rcases hp with ⟨rfl, c3_z⟩ | ⟨rfl, c3_z⟩
  · obtain ⟨i, hi, rfl⟩ := (ix0_iff (n := 4) (by decide)).mp c3_z
    refine n_if_ne (tgt := 19) hx hb (by decide) dX4_setAgreed_6 (by decide) (fun _ => ?_) (fun h9 => absurd h9 (by decide))
    refine lv_aload_n hx hb dX4_setAgreed_19 rfl (lv_at hl 0 rfl) ?_
    refine r_get M hW 0 0 (lv0 _) (v := .ref (ad 2 0)) rfl rfl i_X4 3 (by decide) k_23 (fun _ h9 => h9) rfl dX4_setAgreed_20 ?_
    refine lv_iload_n hx hb dX4_setAgreed_23 rfl (lv_at hl 1 rfl) ?_
    refine lv_iload_n hx hb dX4_setAgreed_24 rfl (lv_at hl 2 rfl) ?_
    refine r_zst M hW hS 2 0 (lv2 _) (n := 5) (fun _ => rfl) (Nat.lt_of_le_of_lt (Nat.le_of_lt_succ hi) (by decide)) (by decide) rfl hb1 (Or.inr hb1) dX4_setAgreed_25 (fun H locs hW hS => ?_)
    obtain ⟨g5_z, eg5_z⟩ : ∃ z, z = up g 2 0 i b := ⟨_, rfl⟩
    rw [← eg5_z] at hW
    have hf : Fr g g5_z := by rw [eg5_z]; exact hf.up rfl
    refine lv_aload_n hx hb dX4_setAgreed_26 rfl (lv_at hl 0 rfl) ?_
    refine k_ci (k_rV (As := []) (rest := []) M hW hS (c_X4_countAgreed l D Z N0 g5_z ad) (cwV 0 hts gX4_setAgreed_X4_countAgreed rfl rfl rfl (by decide +kernel) ⟨Nat.le_of_ble_eq_true rfl, Nat.le_of_ble_eq_true rfl⟩) (r_recv M.2 hW 0 0 (lv0 _) rfl rfl) rfl hl.1 rfl (Nat.le_of_ble_eq_true rfl) dX4_setAgreed_27 ⟨Nat.le_of_ble_eq_true rfl, Nat.le_of_ble_eq_true rfl⟩) hS (fun r7_z g6_z H locs hp hW hS => ?_)
    obtain ⟨hf1, hp⟩ := hp
    have hf : Fr g g6_z := hf.trans hf1
    obtain ⟨rfl, hg⟩ := hp
    subst hg
    refine vx_ret ?_
    refine W.widen (k := 1) (n := 6) (Nat.le_of_ble_eq_true rfl) (Nat.le_of_ble_eq_true rfl) ?_
    -- path 1
    exact W.iret (v := nI (cAg g5_z)) hx hb hr (fun t ht hW9 => ⟨⟨nI (cAg g5_z), g5_z, rfl, ⟨hf, ⟨i, hi, rfl, by rw [eg5_z], eg5_z⟩⟩, (show Wd D Z N0 g5_z ad t.heap by rw [ht]; exact hW)⟩, hS.F ht⟩) hS.2.2 dX4_setAgreed_30
  · refine n_if_ne (tgt := 19) hx hb (by decide) dX4_setAgreed_6 (by decide) (fun h9 => absurd h9 (by decide)) (fun _ => ?_)
    exact k_throw (cls := "java/lang/IndexOutOfBoundsException") (text := "no such person") M hfl hW hS (by decide +kernel) (by decide +kernel) (by decide +kernel) g_IOO n_IOO w_Cond_classLink_RX4_152__java_lang_IndexOutOfBoundsException_ w_Cond_initialized__java_lang_IndexOutOfBoundsException_ s_IOO hl.1 hnt hlocks ⟨rfl, fun h => c3_z ((ix0_iff (n := 4) (by decide)).mpr h)⟩ dX4_setAgreed_9 dX4_setAgreed_12 dX4_setAgreed_13 dX4_setAgreed_15 dX4_setAgreed_18 (Nat.le_of_ble_eq_true rfl) (Nat.le_of_ble_eq_true rfl) (Nat.le_of_ble_eq_true rfl) (Nat.le_of_ble_eq_true rfl) (Nat.le_of_ble_eq_true rfl) (Nat.le_of_ble_eq_true rfl)

set_option maxHeartbeats 4000000 in
set_option maxRecDepth 100000 in
theorem c_X4_recover (l : Launch) (hfl : l.stackTraces = false) (D : va_G) (Z : Nat → Nat) (N0 : Nat) (g : T3) (ad : T2) (x : Int32) : vx_Met l yX4_recover wsX4_recover ({ frames := 7, cells := 2, slots := 12, locals := 340 } : Room) (PC D Z N0 g ad [.ref (ad 0 0), .int (x)]) (QI D Z N0 ad (fun (r : Int32) (g1 : T3) => Fr g g1 ∧ (∃ j, j < g 3 1 2 ∧ x = nI j ∧ g 0 0 6 = 114 ∧ ¬ isO g j ∧ g 13 j 1 ≤ cAg g ∧ r = nI (cAg g) ∧ g1 = fAg (bnT g j 0) 5))) (QX D Z N0 g ad (fun E => (E = "java/lang/IndexOutOfBoundsException" ∧ ¬ Ix (g 3 1 2) x) ∨ (E = "java/lang/IllegalStateException" ∧ ∃ j, j < g 3 1 2 ∧ x = nI j ∧ ¬ (g 0 0 6 = 114 ∧ ¬ isO g j)) ∨ (E = "java/lang/UnsupportedOperationException" ∧ ∃ j, j < g 3 1 2 ∧ x = nI j ∧ g 0 0 6 = 114 ∧ ¬ isO g j ∧ cAg g < g 13 j 1))) 2 12 (AA N0) := by
  refine vx_ofW (cc := cX4_recover) (maxL := 4) (ret := (some .int)) (by decide) rfl ?_
  intro pP eP sP mP args below meth cP s₁ B hmlP hnt hvP
  obtain ⟨rfl, hW, hC⟩ := hvP
  have hx := B.exec
  have hb := B.bytes
  have hr := B.returns
  have hts := atoms_spec (ws := wsX4_recover) B.pre
  have hown : sP.vm.findClass RX4 = some mP.cls := findClass_of_methodNamed B.named
  have hlocks := B.notSynchronized
  have i_X4 : ∀ w ∈ wsX40, w ∈ wsX4_recover := (fun _ h => List.mem_cons_of_mem _ (List.mem_append_left _ (List.mem_append_left _ (List.mem_append_left _ (List.mem_append_left _ (List.mem_append_left _ (List.mem_append_left _ (List.mem_append_left _ (List.mem_append_right _ h)))))))))
  have k_36 : Cond.fieldLink RX4 36 "StartChain" "state" "C" ∈ wsX4_recover := by decide +kernel
  have w_Cond_classLink_RX4_65__java_lang_IllegalStateException_ : Cond.classLink RX4 65 "java/lang/IllegalStateException" ∈ wsX4_recover := by decide +kernel
  have w_Cond_initialized__java_lang_IllegalStateException_ : Cond.initialized "java/lang/IllegalStateException" ∈ wsX4_recover := by decide +kernel
  have s_ISE : ∀ w ∈ (vx_atS RX4 69 "java/lang/IllegalStateException" thN).filter goodWord, w ∈ wsX4_recover := (fun _ h => List.mem_cons_of_mem _ (List.mem_append_left _ (List.mem_append_left _ (List.mem_append_left _ (List.mem_append_right _ h)))))
  have i_X2 : ∀ w ∈ wsX20, w ∈ wsX4_recover := (fun _ h => List.mem_cons_of_mem _ (List.mem_append_left _ (List.mem_append_left _ (List.mem_append_left _ (List.mem_append_left _ (List.mem_append_left _ (List.mem_append_left _ (List.mem_append_right _ h))))))))
  have k_226 : Cond.fieldLink RX4 226 "StartChain$Secret" "people" "I" ∈ wsX4_recover := by decide +kernel
  have k_29 : Cond.fieldLink RX4 29 "StartChain" "lastStart" "LStartChain$Pass;" ∈ wsX4_recover := by decide +kernel
  have i_X1 : ∀ w ∈ wsX10, w ∈ wsX4_recover := (fun _ h => List.mem_cons_of_mem _ (List.mem_append_left _ (List.mem_append_left _ (List.mem_append_left _ (List.mem_append_left _ (List.mem_append_left _ (List.mem_append_right _ h)))))))
  have k_168 : Cond.fieldLink RX4 168 "StartChain$Pass" "registers" "[I" ∈ wsX4_recover := by decide +kernel
  have w_Cond_classLink_RX4_229__java_lang_UnsupportedOperationException_ : Cond.classLink RX4 229 "java/lang/UnsupportedOperationException" ∈ wsX4_recover := by decide +kernel
  have w_Cond_initialized__java_lang_UnsupportedOperationException_ : Cond.initialized "java/lang/UnsupportedOperationException" ∈ wsX4_recover := by decide +kernel
  have s_UOE : ∀ w ∈ (vx_atS RX4 233 "java/lang/UnsupportedOperationException" thN).filter goodWord, w ∈ wsX4_recover := (fun _ h => List.mem_cons_of_mem _ (List.mem_append_left _ (List.mem_append_left _ (List.mem_append_right _ h))))
  have M : Mx pP mP cP cX4_recover 4 sP ([.ref (ad 0 0), .int (x)] : List Value).toArray wsX4_recover RX4 D Z N0 := ⟨⟨hx, hb, hmlP, hown, hts⟩, hC⟩
  have hf : Fr g g := Fr.rf g
  have hS : va_S (AA N0) sP.heap sP.heap [] := va_S.rf
  have hl := lv_entry ([.ref (ad 0 0), .int (x)]) (n := 4) (Nat.le_of_ble_eq_true rfl)
  rw [lg_entry_eq]
  generalize (lg_sl ([.ref (ad 0 0), .int (x)]) ++ List.replicate (4 - (lg_sl ([.ref (ad 0 0), .int (x)])).length) Slot.unset).toArray = ls at hl ⊢
  have hl : lv_has ls 4 [(0, .ref (ad 0 0)), (1, .int (x))] := hl
  refine lv_aload_n hx hb dX4_recover_0 rfl (lv_at hl 0 rfl) ?_
  refine lv_iload_n hx hb dX4_recover_1 rfl (lv_at hl 1 rfl) ?_
  refine k_xr (k_xV (As := [.int (x)]) (rest := []) M hW hS (c_X4_secretAt l hfl D Z N0 g ad (x)) (cwV 1 hts gX4_recover_X4_secretAt rfl rfl rfl (by decide +kernel) ⟨Nat.le_of_ble_eq_true rfl, Nat.le_of_ble_eq_true rfl⟩) (r_recv M.2 hW 0 0 (lv0 _) rfl rfl) rfl hl.1 rfl (Nat.le_of_ble_eq_true rfl) dX4_recover_2 ⟨Nat.le_of_ble_eq_true rfl, Nat.le_of_ble_eq_true rfl⟩) hS (fun E ce q9 H locs hp hW hS hq9 => ?_) (fun r2_z g1_z H locs hp hW hS => ?_)
  · exact k_out (Or.inl hp) hW hS hq9 hnt hlocks (Nat.le_of_ble_eq_true rfl) (Nat.le_of_ble_eq_true rfl)
  · obtain ⟨hf1, hp⟩ := hp
    have hf : Fr g g1_z := hf.trans hf1
    obtain ⟨i3_z, hi3_z, hxe, hre, hg⟩ := hp
    subst hg
    subst hxe
    subst hre
    have hli3_z : lv g 13 i3_z := Nat.lt_of_lt_of_le hi3_z (hW.2.2.2 1 (by decide)).1
    refine lv_astore_n (lv' := [(2, .ref (ad 13 i3_z)), (0, .ref (ad 0 0)), (1, .int (nI (i3_z)))]) hx hb dX4_recover_5 rfl hl (by decide) rfl (fun ls hl => ?_)
    refine lv_aload_n hx hb dX4_recover_6 rfl (lv_at hl 1 rfl) ?_
    have b4_z : g 0 0 6 ≤ 127 := hW.2.2.1.le 0 0 6 126 rfl
    refine r_get M hW 0 0 (lv0 _) (v := .int (nI (g 0 0 6))) rfl rfl i_X4 6 (by decide) k_36 (fun _ h9 => h9) rfl dX4_recover_7 ?_
    refine lv_bipush (v := nI 114) hx hb dX4_recover_10 (by decide) ?_
    refine n_icmp_ne (tgt := 23) hx hb (Nat.lt_of_le_of_lt b4_z (by decide)) (by decide) dX4_recover_12 (by decide) (fun c5_z => ?_) (fun c5_z => ?_)
    · exact k_throw (cls := "java/lang/IllegalStateException") (text := "does not run, or the secret opens") M hfl hW hS (by decide +kernel) (by decide +kernel) (by decide +kernel) g_ISE n_ISE w_Cond_classLink_RX4_65__java_lang_IllegalStateException_ w_Cond_initialized__java_lang_IllegalStateException_ s_ISE hl.1 hnt hlocks (Or.inr (Or.inl ⟨rfl, i3_z, hi3_z, rfl, fun h => c5_z h.1⟩)) dX4_recover_23 dX4_recover_26 dX4_recover_27 dX4_recover_29 dX4_recover_32 (Nat.le_of_ble_eq_true rfl) (Nat.le_of_ble_eq_true rfl) (Nat.le_of_ble_eq_true rfl) (Nat.le_of_ble_eq_true rfl) (Nat.le_of_ble_eq_true rfl) (Nat.le_of_ble_eq_true rfl)
    · refine lv_aload_n hx hb dX4_recover_15 rfl (lv_at hl 1 rfl) ?_
      refine lv_aload_n hx hb dX4_recover_16 rfl (lv_at hl 0 rfl) ?_
      refine k_ci (k_rV (As := [.ref (ad 13 i3_z)]) (rest := []) M hW hS (c_X4_isOpen l D Z N0 g ad i3_z (hf.lv hli3_z)) (cwV 1 hts gX4_recover_X4_isOpen rfl rfl rfl (by decide +kernel) ⟨Nat.le_of_ble_eq_true rfl, Nat.le_of_ble_eq_true rfl⟩) (r_recv M.2 hW 0 0 (lv0 _) rfl rfl) rfl hl.1 rfl (Nat.le_of_ble_eq_true rfl) dX4_recover_17 ⟨Nat.le_of_ble_eq_true rfl, Nat.le_of_ble_eq_true rfl⟩) hS (fun r7_z g6_z H locs hp hW hS => ?_)
      obtain ⟨hf1, hp⟩ := hp
      have hf : Fr g g6_z := hf.trans hf1
      obtain ⟨hp, hg⟩ := hp
      subst hg
      rcases hp with ⟨rfl, c8_z⟩ | ⟨rfl, c8_z⟩
      · refine n_if_eq (tgt := 33) hx hb (by decide) dX4_recover_20 (by decide) (fun h9 => absurd h9 (by decide)) (fun _ => ?_)
        exact k_throw (cls := "java/lang/IllegalStateException") (text := "does not run, or the secret opens") M hfl hW hS (by decide +kernel) (by decide +kernel) (by decide +kernel) g_ISE n_ISE w_Cond_classLink_RX4_65__java_lang_IllegalStateException_ w_Cond_initialized__java_lang_IllegalStateException_ s_ISE hl.1 hnt hlocks (Or.inr (Or.inl ⟨rfl, i3_z, hi3_z, rfl, fun h => h.2 c8_z⟩)) dX4_recover_23 dX4_recover_26 dX4_recover_27 dX4_recover_29 dX4_recover_32 (Nat.le_of_ble_eq_true rfl) (Nat.le_of_ble_eq_true rfl) (Nat.le_of_ble_eq_true rfl) (Nat.le_of_ble_eq_true rfl) (Nat.le_of_ble_eq_true rfl) (Nat.le_of_ble_eq_true rfl)
      · refine n_if_eq (tgt := 33) hx hb (by decide) dX4_recover_20 (by decide) (fun _ => ?_) (fun h9 => absurd h9 (by decide))
        refine lv_aload_n hx hb dX4_recover_33 rfl (lv_at hl 1 rfl) ?_
        refine k_ci (k_rV (As := []) (rest := []) M hW hS (c_X4_countAgreed l D Z N0 g ad) (cwV 0 hts gX4_recover_X4_countAgreed rfl rfl rfl (by decide +kernel) ⟨Nat.le_of_ble_eq_true rfl, Nat.le_of_ble_eq_true rfl⟩) (r_recv M.2 hW 0 0 (lv0 _) rfl rfl) rfl hl.1 rfl (Nat.le_of_ble_eq_true rfl) dX4_recover_34 ⟨Nat.le_of_ble_eq_true rfl, Nat.le_of_ble_eq_true rfl⟩) hS (fun r12_z g11_z H locs hp hW hS => ?_)
        obtain ⟨hf1, hp⟩ := hp
        have hf : Fr g g11_z := hf.trans hf1
        obtain ⟨rfl, hg⟩ := hp
        subst hg
        refine lv_istore_n (lv' := [(3, .int (nI (cAg g))), (2, .ref (ad 13 i3_z)), (0, .ref (ad 0 0)), (1, .int (nI (i3_z)))]) hx hb dX4_recover_37 rfl hl (by decide) rfl (fun ls hl => ?_)
        refine lv_iload_n hx hb dX4_recover_38 rfl (lv_at hl 0 rfl) ?_
        refine lv_aload_n hx hb dX4_recover_39 rfl (lv_at hl 1 rfl) ?_
        have b13_z : g 13 i3_z 1 ≤ 5 := hW.2.2.1.le 13 i3_z 1 4 rfl
        refine r_get M hW 13 i3_z (hf.lv hli3_z) (v := .int (nI (g 13 i3_z 1))) rfl rfl i_X2 1 (by decide) k_226 (fun _ h9 => h9) rfl dX4_recover_40 ?_
        refine n_icmp_ge (tgt := 56) hx hb (Nat.lt_of_le_of_lt (cAg_le g) (by decide)) (Nat.lt_of_le_of_lt b13_z (by decide)) dX4_recover_43 (by decide) (fun c14_z => ?_) (fun c14_z => ?_)
        · refine lv_aload_n hx hb dX4_recover_56 rfl (lv_at hl 1 rfl) ?_
          refine lv_aload_n hx hb dX4_recover_57 rfl (lv_at hl 2 rfl) ?_
          refine r_get M hW 0 0 (lv0 _) (v := .ref (ad 5 0)) rfl rfl i_X4 4 (by decide) k_29 (fun _ h9 => h9) rfl dX4_recover_58 ?_
          refine r_get M hW 5 0 (show (0 : Nat) < 2 by decide) (v := .ref (ad 6 0)) rfl rfl i_X1 0 (by decide) k_168 (fun _ h9 => h9) rfl dX4_recover_61 ?_
          refine k_ci (k_rV (As := [.ref (ad 6 0)]) (rest := []) M hW hS (c_X2_bindTo l D Z N0 g ad i3_z 0 (hf.lv hli3_z) (by decide)) (cwV 1 hts gX4_recover_X2_bindTo rfl rfl rfl (by decide +kernel) ⟨Nat.le_of_ble_eq_true rfl, Nat.le_of_ble_eq_true rfl⟩) (r_recv M.2 hW 13 i3_z (hf.lv hli3_z) rfl rfl) rfl hl.1 rfl (Nat.le_of_ble_eq_true rfl) dX4_recover_64 ⟨Nat.le_of_ble_eq_true rfl, Nat.le_of_ble_eq_true rfl⟩) hS (fun r16_z g15_z H locs hp hW hS => ?_)
          obtain ⟨hf1, hp⟩ := hp
          have hf : Fr g g15_z := hf.trans hf1
          obtain ⟨rfl, eg15_z⟩ := hp
          refine lv_pop hx hb dX4_recover_67 rfl ?_
          refine lv_aload_n hx hb dX4_recover_68 rfl (lv_at hl 2 rfl) ?_
          refine k_cv (k_rV (As := []) (rest := []) M hW hS (c_X4_forgetAgreed l D Z N0 g15_z ad) (cwV 0 hts gX4_recover_X4_forgetAgreed rfl rfl rfl (by decide +kernel) ⟨Nat.le_of_ble_eq_true rfl, Nat.le_of_ble_eq_true rfl⟩) (r_recv M.2 hW 0 0 (lv0 _) rfl rfl) rfl hl.1 rfl (Nat.le_of_ble_eq_true rfl) dX4_recover_69 ⟨Nat.le_of_ble_eq_true rfl, Nat.le_of_ble_eq_true rfl⟩) hS (fun g17_z H locs hp hW hS => ?_)
          obtain ⟨hf1, hp⟩ := hp
          have hf : Fr g g17_z := hf.trans hf1
          have eg17_z : g17_z = fAg g15_z 5 := hp
          refine lv_iload_n hx hb dX4_recover_72 rfl (lv_at hl 0 rfl) ?_
          refine vx_ret ?_
          refine W.widen (k := 2) (n := 12) (Nat.le_of_ble_eq_true rfl) (Nat.le_of_ble_eq_true rfl) ?_
          -- path 1
          exact W.iret (v := nI (cAg g)) hx hb hr (fun t ht hW9 => ⟨⟨nI (cAg g), g17_z, rfl, ⟨hf, ⟨i3_z, hi3_z, rfl, c5_z, c8_z, c14_z, rfl, by rw [eg17_z, eg15_z]⟩⟩, (show Wd D Z N0 g17_z ad t.heap by rw [ht]; exact hW)⟩, hS.F ht⟩) hS.2.2 dX4_recover_73
        · exact k_throw (cls := "java/lang/UnsupportedOperationException") (text := "too few people agree") M hfl hW hS (by decide +kernel) (by decide +kernel) (by decide +kernel) g_UOE n_UOE w_Cond_classLink_RX4_229__java_lang_UnsupportedOperationException_ w_Cond_initialized__java_lang_UnsupportedOperationException_ s_UOE hl.1 hnt hlocks (Or.inr (Or.inr ⟨rfl, i3_z, hi3_z, rfl, c5_z, c8_z, by omega⟩)) dX4_recover_46 dX4_recover_49 dX4_recover_50 dX4_recover_52 dX4_recover_55 (Nat.le_of_ble_eq_true rfl) (Nat.le_of_ble_eq_true rfl) (Nat.le_of_ble_eq_true rfl) (Nat.le_of_ble_eq_true rfl) (Nat.le_of_ble_eq_true rfl) (Nat.le_of_ble_eq_true rfl)
