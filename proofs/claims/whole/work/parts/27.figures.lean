/-! nextOpen, and the two figures. -/
theorem ne_f : ∀ a, a < 9 → ∀ b, b < 9 → ¬ b = 0 → vf_n32 (FP.fdiv (FP.i2f (nI a)) (FP.i2f (nI b))) := by
  unfold vf_n32
  decide +kernel
theorem ne_d : ∀ b, b < 7 → ¬ b = 0 → ∀ a, a < 595 → vf_n64 (FP.ddiv (FP.i2d (nI a)) (FP.i2d (nI b))) := by
  unfold vf_n64
  decide +kernel
theorem mx0 (x : Int32) : ∃ k, k < 2 ^ 31 ∧ (if x < nI 0 then nI 0 else x) = nI k ∧ ∀ q, q < 2 ^ 31 → (x ≤ nI q ↔ k ≤ q) := by
  by_cases h : x < nI 0
  · exact ⟨0, by decide, if_pos h, fun q hq => ⟨fun _ => Nat.zero_le _, fun _ => Int32.le_trans (Int32.le_of_lt h) ((nI_leI (a := 0) (b := q) (by decide) hq).mpr (Nat.zero_le _))⟩⟩
  · obtain ⟨j, hj, rfl⟩ := nI_of (x := x) h
    exact ⟨j, hj, if_neg h, fun q hq => nI_leI hj hq⟩
def cOp (g : T3) (n : Nat) : Nat := sumN (fun q => if g 0 0 6 = 114 ∧ oth g q 0 = 0 then 1 else 0) n
theorem cOp_s (g : T3) (n : Nat) {b : Nat} (h : (b = 1 ∧ isO g n) ∨ (b = 0 ∧ ¬ isO g n)) : cOp g (n + 1) = cOp g n + b := by
  show cOp g n + (if g 0 0 6 = 114 ∧ oth g n 0 = 0 then 1 else 0) = _
  rcases h with ⟨rfl, h⟩ | ⟨rfl, h⟩
  · exact congrArg (cOp g n + ·) (if_pos h)
  · exact congrArg (cOp g n + ·) (if_neg h)
theorem cOp_le (g : T3) : ∀ n, cOp g n ≤ n
  | 0 => Nat.zero_le _
  | n + 1 => by
    rcases Classical.em (isO g n) with h | h
    · rw [cOp_s g n (Or.inl ⟨rfl, h⟩)]; have := cOp_le g n; omega
    · rw [cOp_s g n (Or.inr ⟨rfl, h⟩)]; have := cOp_le g n; omega
def sVer (g : T3) (n : Nat) : Nat := sumN (fun q => g 9 0 q) n
theorem sVer_le {g : T3} (h : ∀ q, g 9 0 q ≤ 99) (n : Nat) : sVer g n ≤ n * 99 := sumN_le h n
set_option maxHeartbeats 4000000 in
set_option maxRecDepth 100000 in
theorem c_X4_nextOpen (l : Launch) (hfl : l.stackTraces = false) (D : va_G) (Z : Nat → Nat) (N0 : Nat) (g : T3) (ad : T2) (x : Int32) : vx_Met l yX4_nextOpen wsX4_nextOpen ({ frames := 6, cells := 1, slots := 6, locals := 300 } : Room) (PC D Z N0 g ad [.ref (ad 0 0), .int (x)]) (QI D Z N0 ad (fun (r : Int32) (g1 : T3) => Fr g g1 ∧ (∃ j, j < g 3 1 2 ∧ x ≤ nI j ∧ isO g j ∧ (∀ q, q < j → x ≤ nI q → ¬ isO g q) ∧ r = nI j ∧ g = g1))) (QX D Z N0 g ad (fun E => E = nx_R ∧ ∀ q, q < g 3 1 2 → x ≤ nI q → ¬ isO g q)) 1 6 (AA N0) := by
  refine vx_ofW (cc := cX4_nextOpen) (maxL := 3) (ret := (some .int)) (by decide) rfl ?_
  intro pP eP sP mP args below meth cP s₁ B hmlP hnt hvP
  obtain ⟨rfl, hW, hC⟩ := hvP
  have hx := B.exec
  have hb := B.bytes
  have hr := B.returns
  have hts := atoms_spec (ws := wsX4_nextOpen) B.pre
  have hown : sP.vm.findClass RX4 = some mP.cls := findClass_of_methodNamed B.named
  have hlocks := B.notSynchronized
  have w_Cond_methodLink_RX4_212_Lib_Math_max_name : Cond.methodLink RX4 212 Lib.Math.max.name ∈ wsX4_nextOpen := by decide +kernel
  have w_Cond_static_Lib_Math_max_name : Cond.static Lib.Math.max.name ∈ wsX4_nextOpen := by decide +kernel
  have w_Cond_initialized__java_lang_Math_ : Cond.initialized "java/lang/Math" ∈ wsX4_nextOpen := by decide +kernel
  have w_Cond_code_Lib_Math_max_name_Lib_Math_max_code_2__some__int_ : Cond.code Lib.Math.max.name Lib.Math.max.code 2 (some .int) ∈ wsX4_nextOpen := by decide +kernel
  have i_X4 : ∀ w ∈ wsX40, w ∈ wsX4_nextOpen := (fun _ h => List.mem_cons_of_mem _ (List.mem_append_left _ (List.mem_append_left _ (List.mem_append_left _ (List.mem_append_left _ (List.mem_append_left _ (List.mem_append_right _ h)))))))
  have k_20 : Cond.fieldLink RX4 20 "StartChain" "secrets" "Ljava/util/ArrayList;" ∈ wsX4_nextOpen := by decide +kernel
  have w_Cond_classLink_RX4_160__java_util_NoSuchElementException_ : Cond.classLink RX4 160 "java/util/NoSuchElementException" ∈ wsX4_nextOpen := by decide +kernel
  have w_Cond_initialized__java_util_NoSuchElementException_ : Cond.initialized "java/util/NoSuchElementException" ∈ wsX4_nextOpen := by decide +kernel
  have s_NSE : ∀ w ∈ (nx_at RX4 164).filter goodWord, w ∈ wsX4_nextOpen := (fun _ h => List.mem_cons_of_mem _ (List.mem_append_left _ (List.mem_append_right _ h)))
  have w_Cond_classLink_RX4_189__StartChain_Secret_ : Cond.classLink RX4 189 "StartChain$Secret" ∈ wsX4_nextOpen := by decide +kernel
  have M : Mx pP mP cP cX4_nextOpen 3 sP ([.ref (ad 0 0), .int (x)] : List Value).toArray wsX4_nextOpen RX4 D Z N0 := ⟨⟨hx, hb, hmlP, hown, hts⟩, hC⟩
  have hf : Fr g g := Fr.rf g
  have hS : va_S (AA N0) sP.heap sP.heap [] := va_S.rf
  have hl := lv_entry ([.ref (ad 0 0), .int (x)]) (n := 3) (Nat.le_of_ble_eq_true rfl)
  rw [lg_entry_eq]
  generalize (lg_sl ([.ref (ad 0 0), .int (x)]) ++ List.replicate (3 - (lg_sl ([.ref (ad 0 0), .int (x)])).length) Slot.unset).toArray = ls at hl ⊢
  have hl : lv_has ls 3 [(0, .ref (ad 0 0)), (1, .int (x))] := hl
  refine lv_iload_n hx hb dX4_nextOpen_0 rfl (lv_at hl 1 rfl) ?_
  refine lv_iconst (v := nI 0) hx hb dX4_nextOpen_1 (by decide) ?_
  refine va_mmax hx hb (by rw [hmlP]; exact hl.1.symm) hown (hts _ w_Cond_methodLink_RX4_212_Lib_Math_max_name) (hts _ w_Cond_static_Lib_Math_max_name) (hts _ w_Cond_initialized__java_lang_Math_) (hts _ w_Cond_code_Lib_Math_max_name_Lib_Math_max_code_2__some__int_) (by decide) (by decide) (by omega) (by omega) dX4_nextOpen_2 ?_
  obtain ⟨k0, hk0, ek0, hkq⟩ := mx0 x
  rw [show (if x < nI 0 then nI 0 else x) = nI k0 from ek0]
  refine lv_istore_n (lv' := [(2, .int (nI (k0))), (0, .ref (ad 0 0)), (1, .int (x))]) hx hb dX4_nextOpen_5 rfl hl (by decide) rfl (fun ls hl => ?_)
  refine k_loop (D := D) (Z := Z) (N0 := N0) (ad := ad) (g0 := g) (σ := Unit) (a0 := ()) (k0 + g 3 1 2) 3 (k0) (fun k gk a => g = gk ∧ (k0 ≤ k ∧ k < 2 ^ 31 ∧ ∀ q, k0 ≤ q → q < k → ¬ isO g q)) (fun k a => [(2, .int (nI (k))), (0, .ref (ad 0 0)), (1, .int (x))]) (Nat.le_add_right _ _) ⟨rfl, ⟨Nat.le_refl _, hk0, fun q h1 h2 => absurd h1 (Nat.not_le.mpr h2)⟩⟩ hW hS (lv_sub hl [0, 1, 2] rfl) (fun n k gk a H locs ls hkn hI hW hS hl ih => ?_)
  obtain ⟨hg, hI⟩ := hI
  subst hg
  obtain ⟨hI1, hI2, hI3⟩ := hI; have hs9 := hW.2.2.1.le 3 1 2 7 rfl
  refine lv_iload_n hx hb dX4_nextOpen_6 rfl (lv_at hl 0 rfl) ?_
  refine lv_aload_n hx hb dX4_nextOpen_7 rfl (lv_at hl 1 rfl) ?_
  refine r_get M hW 0 0 (lv0 _) (v := .ref (ad 3 1)) rfl rfl i_X4 2 (by decide) k_20 (fun _ h9 => h9) rfl dX4_nextOpen_8 ?_
  refine k_ci (k_rV (As := []) (rest := [.int (nI (k))]) M hW hS (c_Jx4a65c_size_8abf5 l D Z N0 g ad 1 (by decide)) (cwV 0 hts gX4_nextOpen_Jx4a65c_size_8abf5 rfl rfl rfl (by decide +kernel) ⟨Nat.le_of_ble_eq_true rfl, Nat.le_of_ble_eq_true rfl⟩) (r_recv M.2 hW 3 1 (show (1 : Nat) < 2 by decide) rfl rfl) rfl hl.1 rfl (Nat.le_of_ble_eq_true rfl) dX4_nextOpen_11 ⟨Nat.le_of_ble_eq_true rfl, Nat.le_of_ble_eq_true rfl⟩) hS (fun r2_z g1_z H locs hp hW hS => ?_)
  obtain ⟨hf1, hp⟩ := hp
  have hf : Fr g g1_z := hf.trans hf1
  obtain ⟨rfl, hg⟩ := hp
  subst hg
  have b3_z : g 3 1 2 ≤ 8 := hW.2.2.1.le 3 1 2 7 rfl
  refine n_icmp_ge (tgt := 43) hx hb (by omega) (Nat.lt_of_le_of_lt b3_z (by decide)) dX4_nextOpen_14 (by decide) (fun c4_z => ?_) (fun c4_z => ?_)
  · exact k_throwN (text := "no secret opens from there on") M hfl hW hS (by decide +kernel) w_Cond_classLink_RX4_160__java_util_NoSuchElementException_ w_Cond_initialized__java_util_NoSuchElementException_ s_NSE hl.1 hnt hlocks ⟨rfl, fun q h1 h2 => hI3 q ((hkq q (by omega)).mp h2) (by omega)⟩ dX4_nextOpen_43 dX4_nextOpen_46 dX4_nextOpen_47 dX4_nextOpen_49 dX4_nextOpen_52 (Nat.le_of_ble_eq_true rfl) (Nat.le_of_ble_eq_true rfl) (Nat.le_of_ble_eq_true rfl) (Nat.le_of_ble_eq_true rfl) (Nat.le_of_ble_eq_true rfl) (Nat.le_of_ble_eq_true rfl)
  · refine lv_aload_n hx hb dX4_nextOpen_17 rfl (lv_at hl 1 rfl) ?_
    refine lv_aload_n hx hb dX4_nextOpen_18 rfl (lv_at hl 1 rfl) ?_
    refine r_get M hW 0 0 (lv0 _) (v := .ref (ad 3 1)) rfl rfl i_X4 2 (by decide) k_20 (fun _ h9 => h9) rfl dX4_nextOpen_19 ?_
    refine lv_iload_n hx hb dX4_nextOpen_22 rfl (lv_at hl 0 rfl) ?_
    refine k_cr (k_rV (As := [.int (nI (k))]) (rest := [.ref (ad 0 0)]) M hW hS (c_Jx4a65c_get_915e3 l D Z N0 g ad 1 k (by decide) (by omega)) (cwV 1 hts gX4_nextOpen_Jx4a65c_get_915e3 rfl rfl rfl (by decide +kernel) ⟨Nat.le_of_ble_eq_true rfl, Nat.le_of_ble_eq_true rfl⟩) (r_recv M.2 hW 3 1 (show (1 : Nat) < 2 by decide) rfl rfl) rfl hl.1 rfl (Nat.le_of_ble_eq_true rfl) dX4_nextOpen_23 ⟨Nat.le_of_ble_eq_true rfl, Nat.le_of_ble_eq_true rfl⟩) hS (fun r6_z g5_z H locs hp hW hS => ?_)
    obtain ⟨hf1, hp⟩ := hp
    have hf : Fr g g5_z := hf.trans hf1
    obtain ⟨hp, hg⟩ := hp
    subst hg
    have hp : r6_z = ad 13 k := hp
    subst hp
    refine va_castS hx hb hown (hts _ w_Cond_classLink_RX4_189__StartChain_Secret_) (hC.1.1 5 _ rfl).2 (r_recv hC hW 13 k (hf.lv (Nat.lt_of_lt_of_le (show k < g 3 1 2 by omega) (hW.2.2.2 1 (by decide)).1)) rfl rfl) dX4_nextOpen_26 ?_
    refine k_ci (k_rV (As := [.ref (ad 13 k)]) (rest := []) M hW hS (c_X4_isOpen l D Z N0 g ad k (hf.lv (Nat.lt_of_lt_of_le (show k < g 3 1 2 by omega) (hW.2.2.2 1 (by decide)).1))) (cwV 1 hts gX4_nextOpen_X4_isOpen rfl rfl rfl (by decide +kernel) ⟨Nat.le_of_ble_eq_true rfl, Nat.le_of_ble_eq_true rfl⟩) (r_recv M.2 hW 0 0 (lv0 _) rfl rfl) rfl hl.1 rfl (Nat.le_of_ble_eq_true rfl) dX4_nextOpen_29 ⟨Nat.le_of_ble_eq_true rfl, Nat.le_of_ble_eq_true rfl⟩) hS (fun r8_z g7_z H locs hp hW hS => ?_)
    obtain ⟨hf1, hp⟩ := hp
    have hf : Fr g g7_z := hf.trans hf1
    obtain ⟨hp, hg⟩ := hp
    subst hg
    rcases hp with ⟨rfl, c9_z⟩ | ⟨rfl, c9_z⟩
    · refine n_if_eq (tgt := 37) hx hb (by decide) dX4_nextOpen_32 (by decide) (fun h9 => absurd h9 (by decide)) (fun _ => ?_)
      refine lv_iload_n hx hb dX4_nextOpen_35 rfl (lv_at hl 0 rfl) ?_
      refine vx_ret ?_
      refine W.widen (k := 1) (n := 6) (Nat.le_of_ble_eq_true rfl) (Nat.le_of_ble_eq_true rfl) ?_
      -- path 1
      exact W.iret (v := nI (k)) hx hb hr (fun t ht hW9 => ⟨⟨nI (k), g, rfl, ⟨hf, ⟨k, by omega, (hkq k hI2).mpr hI1, c9_z, fun q h1 h2 => hI3 q ((hkq q (by omega)).mp h2) h1, rfl, rfl⟩⟩, (show Wd D Z N0 g ad t.heap by rw [ht]; exact hW)⟩, hS.F ht⟩) hS.2.2 dX4_nextOpen_36
    · refine n_if_eq (tgt := 37) hx hb (by decide) dX4_nextOpen_32 (by decide) (fun _ => ?_) (fun h9 => absurd h9 (by decide))
      refine lv_iinc (v := nI (k + 1)) (lv' := [(2, .int (nI (k + 1))), (0, .ref (ad 0 0)), (1, .int (x))]) hx hb dX4_nextOpen_37 hl (k := 0) rfl (nI_add _ _) (by decide) rfl (fun ls hl => ?_)
      refine lv_goto (tgt := 6) hx hb dX4_nextOpen_40 (by decide) ?_
      exact ih (by omega) g (()) _ _ _ ⟨rfl, ⟨by omega, by omega, fun q h1 h2 => if h9 : q = k then h9 ▸ c9_z else hI3 q h1 (by omega)⟩⟩ hW hS (lv_sub hl [0, 1, 2] rfl)

set_option maxHeartbeats 4000000 in
set_option maxRecDepth 100000 in
theorem c_X4_openShare (l : Launch) (hfl : l.stackTraces = false) (D : va_G) (Z : Nat → Nat) (N0 : Nat) (g : T3) (ad : T2) : vx_Met l yX4_openShare wsX4_openShare ({ frames := 6, cells := 1, slots := 6, locals := 300 } : Room) (PC D Z N0 g ad [.ref (ad 0 0)]) (QF D Z N0 ad (fun (r : UInt32) (g1 : T3) => Fr g g1 ∧ (¬ g 3 1 2 = 0 ∧ r = FP.fdiv (FP.i2f (nI (cOp g (g 3 1 2)))) (FP.i2f (nI (g 3 1 2))) ∧ g = g1))) (QX D Z N0 g ad (fun E => E = "java/lang/ArithmeticException" ∧ g 3 1 2 = 0)) 1 6 (AA N0) := by
  refine vx_ofW (cc := cX4_openShare) (maxL := 3) (ret := (some .float)) (by decide) rfl ?_
  intro pP eP sP mP args below meth cP s₁ B hmlP hnt hvP
  obtain ⟨rfl, hW, hC⟩ := hvP
  have hx := B.exec
  have hb := B.bytes
  have hr := B.returns
  have hts := atoms_spec (ws := wsX4_openShare) B.pre
  have hown : sP.vm.findClass RX4 = some mP.cls := findClass_of_methodNamed B.named
  have hlocks := B.notSynchronized
  have i_X4 : ∀ w ∈ wsX40, w ∈ wsX4_openShare := (fun _ h => List.mem_cons_of_mem _ (List.mem_append_left _ (List.mem_append_left _ (List.mem_append_left _ (List.mem_append_left _ (List.mem_append_left _ (List.mem_append_right _ h)))))))
  have k_20 : Cond.fieldLink RX4 20 "StartChain" "secrets" "Ljava/util/ArrayList;" ∈ wsX4_openShare := by decide +kernel
  have w_Cond_classLink_RX4_237__java_lang_ArithmeticException_ : Cond.classLink RX4 237 "java/lang/ArithmeticException" ∈ wsX4_openShare := by decide +kernel
  have w_Cond_initialized__java_lang_ArithmeticException_ : Cond.initialized "java/lang/ArithmeticException" ∈ wsX4_openShare := by decide +kernel
  have s_ARE : ∀ w ∈ (vx_atS RX4 241 "java/lang/ArithmeticException" thN).filter goodWord, w ∈ wsX4_openShare := (fun _ h => List.mem_cons_of_mem _ (List.mem_append_left _ (List.mem_append_right _ h)))
  have w_Cond_classLink_RX4_189__StartChain_Secret_ : Cond.classLink RX4 189 "StartChain$Secret" ∈ wsX4_openShare := by decide +kernel
  have M : Mx pP mP cP cX4_openShare 3 sP ([.ref (ad 0 0)] : List Value).toArray wsX4_openShare RX4 D Z N0 := ⟨⟨hx, hb, hmlP, hown, hts⟩, hC⟩
  have hf : Fr g g := Fr.rf g
  have hS : va_S (AA N0) sP.heap sP.heap [] := va_S.rf
  have hl := lv_entry ([.ref (ad 0 0)]) (n := 3) (Nat.le_of_ble_eq_true rfl)
  rw [lg_entry_eq]
  generalize (lg_sl ([.ref (ad 0 0)]) ++ List.replicate (3 - (lg_sl ([.ref (ad 0 0)])).length) Slot.unset).toArray = ls at hl ⊢
  have hl : lv_has ls 3 [(0, .ref (ad 0 0))] := hl
  refine lv_aload_n hx hb dX4_openShare_0 rfl (lv_at hl 0 rfl) ?_
  refine r_get M hW 0 0 (lv0 _) (v := .ref (ad 3 1)) rfl rfl i_X4 2 (by decide) k_20 (fun _ h9 => h9) rfl dX4_openShare_1 ?_
  refine k_ci (k_rV (As := []) (rest := []) M hW hS (c_Jx4a65c_isEmpty_aae02 l D Z N0 g ad 1 (by decide)) (cwV 0 hts gX4_openShare_Jx4a65c_isEmpty_aae02 rfl rfl rfl (by decide +kernel) ⟨Nat.le_of_ble_eq_true rfl, Nat.le_of_ble_eq_true rfl⟩) (r_recv M.2 hW 3 1 (show (1 : Nat) < 2 by decide) rfl rfl) rfl hl.1 rfl (Nat.le_of_ble_eq_true rfl) dX4_openShare_4 ⟨Nat.le_of_ble_eq_true rfl, Nat.le_of_ble_eq_true rfl⟩) hS (fun r2_z g1_z H locs hp hW hS => ?_)
  obtain ⟨hf1, hp⟩ := hp
  have hf : Fr g g1_z := hf.trans hf1
  obtain ⟨hp, hg⟩ := hp
  subst hg
  rcases hp with ⟨rfl, c3_z⟩ | ⟨rfl, c3_z⟩
  · refine n_if_eq (tgt := 20) hx hb (by decide) dX4_openShare_7 (by decide) (fun h9 => absurd h9 (by decide)) (fun _ => ?_)
    exact k_throw (cls := "java/lang/ArithmeticException") (text := "no secrets") M hfl hW hS (by decide +kernel) (by decide +kernel) (by decide +kernel) g_ARE n_ARE w_Cond_classLink_RX4_237__java_lang_ArithmeticException_ w_Cond_initialized__java_lang_ArithmeticException_ s_ARE hl.1 hnt hlocks ⟨rfl, c3_z⟩ dX4_openShare_10 dX4_openShare_13 dX4_openShare_14 dX4_openShare_16 dX4_openShare_19 (Nat.le_of_ble_eq_true rfl) (Nat.le_of_ble_eq_true rfl) (Nat.le_of_ble_eq_true rfl) (Nat.le_of_ble_eq_true rfl) (Nat.le_of_ble_eq_true rfl) (Nat.le_of_ble_eq_true rfl)
  · refine n_if_eq (tgt := 20) hx hb (by decide) dX4_openShare_7 (by decide) (fun _ => ?_) (fun h9 => absurd h9 (by decide))
    refine lv_iconst (v := nI 0) hx hb dX4_openShare_20 (by decide) ?_
    refine lv_istore_n (lv' := [(1, .int (nI (0))), (0, .ref (ad 0 0))]) hx hb dX4_openShare_21 rfl hl (by decide) rfl (fun ls hl => ?_)
    refine lv_iconst (v := nI 0) hx hb dX4_openShare_22 (by decide) ?_
    refine lv_istore_n (lv' := [(2, .int (nI (0))), (1, .int (nI (0))), (0, .ref (ad 0 0))]) hx hb dX4_openShare_23 rfl hl (by decide) rfl (fun ls hl => ?_)
    refine k_loop (D := D) (Z := Z) (N0 := N0) (ad := ad) (g0 := g) (σ := Nat) (a0 := 0) (g 3 1 2) 3 (0) (fun k gk a => g = gk ∧ (a = cOp g k ∧ k ≤ g 3 1 2)) (fun k a => [(2, .int (nI (k))), (1, .int (nI (a))), (0, .ref (ad 0 0))]) (Nat.zero_le _) ⟨rfl, ⟨rfl, Nat.zero_le _⟩⟩ hW hS (lv_sub hl [0, 1, 2] rfl) (fun n k gk a H locs ls hkn hI hW hS hl ih => ?_)
    obtain ⟨hg, hI⟩ := hI
    subst hg
    obtain ⟨hI1, hI2⟩ := hI; have hs9 := hW.2.2.1.le 3 1 2 7 rfl; have ha9 : a ≤ k := by rw [hI1]; exact cOp_le g k
    refine lv_iload_n hx hb dX4_openShare_24 rfl (lv_at hl 0 rfl) ?_
    refine lv_aload_n hx hb dX4_openShare_25 rfl (lv_at hl 2 rfl) ?_
    refine r_get M hW 0 0 (lv0 _) (v := .ref (ad 3 1)) rfl rfl i_X4 2 (by decide) k_20 (fun _ h9 => h9) rfl dX4_openShare_26 ?_
    refine k_ci (k_rV (As := []) (rest := [.int (nI (k))]) M hW hS (c_Jx4a65c_size_8abf5 l D Z N0 g ad 1 (by decide)) (cwV 0 hts gX4_openShare_Jx4a65c_size_8abf5 rfl rfl rfl (by decide +kernel) ⟨Nat.le_of_ble_eq_true rfl, Nat.le_of_ble_eq_true rfl⟩) (r_recv M.2 hW 3 1 (show (1 : Nat) < 2 by decide) rfl rfl) rfl hl.1 rfl (Nat.le_of_ble_eq_true rfl) dX4_openShare_29 ⟨Nat.le_of_ble_eq_true rfl, Nat.le_of_ble_eq_true rfl⟩) hS (fun r7_z g6_z H locs hp hW hS => ?_)
    obtain ⟨hf1, hp⟩ := hp
    have hf : Fr g g6_z := hf.trans hf1
    obtain ⟨rfl, hg⟩ := hp
    subst hg
    have b8_z : g 3 1 2 ≤ 8 := hW.2.2.1.le 3 1 2 7 rfl
    refine n_icmp_ge (tgt := 62) hx hb (by omega) (Nat.lt_of_le_of_lt b8_z (by decide)) dX4_openShare_32 (by decide) (fun c9_z => ?_) (fun c9_z => ?_)
    · refine lv_iload_n hx hb dX4_openShare_62 rfl (lv_at hl 1 rfl) ?_
      refine lv_i2f hx hb dX4_openShare_63 ?_
      refine lv_aload_n hx hb dX4_openShare_64 rfl (lv_at hl 2 rfl) ?_
      refine r_get M hW 0 0 (lv0 _) (v := .ref (ad 3 1)) rfl rfl i_X4 2 (by decide) k_20 (fun _ h9 => h9) rfl dX4_openShare_65 ?_
      refine k_ci (k_rV (As := []) (rest := [.float (FP.i2f (nI (a)))]) M hW hS (c_Jx4a65c_size_8abf5 l D Z N0 g ad 1 (by decide)) (cwV 0 hts gX4_openShare_Jx4a65c_size_8abf5 rfl rfl rfl (by decide +kernel) ⟨Nat.le_of_ble_eq_true rfl, Nat.le_of_ble_eq_true rfl⟩) (r_recv M.2 hW 3 1 (show (1 : Nat) < 2 by decide) rfl rfl) rfl hl.1 rfl (Nat.le_of_ble_eq_true rfl) dX4_openShare_68 ⟨Nat.le_of_ble_eq_true rfl, Nat.le_of_ble_eq_true rfl⟩) hS (fun r11_z g10_z H locs hp hW hS => ?_)
      obtain ⟨hf1, hp⟩ := hp
      have hf : Fr g g10_z := hf.trans hf1
      obtain ⟨rfl, hg⟩ := hp
      subst hg
      have b12_z : g 3 1 2 ≤ 8 := hW.2.2.1.le 3 1 2 7 rfl
      refine lv_i2f hx hb dX4_openShare_71 ?_
      refine lv_fdiv hx hb dX4_openShare_72 (ne_f _ (by omega) _ (by omega) (by omega)) ?_
      refine vx_ret ?_
      refine W.widen (k := 1) (n := 6) (Nat.le_of_ble_eq_true rfl) (Nat.le_of_ble_eq_true rfl) ?_
      -- path 1
      exact W.fret (v := FP.fdiv (FP.i2f (nI (a))) (FP.i2f (nI (g 3 1 2)))) hx hb hr (fun t ht hW9 => ⟨⟨FP.fdiv (FP.i2f (nI (a))) (FP.i2f (nI (g 3 1 2))), g, rfl, ⟨hf, ⟨c3_z, by rw [hI1, show k = g 3 1 2 by omega], rfl⟩⟩, (show Wd D Z N0 g ad t.heap by rw [ht]; exact hW)⟩, hS.F ht⟩) hS.2.2 dX4_openShare_73
    · refine lv_aload_n hx hb dX4_openShare_35 rfl (lv_at hl 2 rfl) ?_
      refine lv_aload_n hx hb dX4_openShare_36 rfl (lv_at hl 2 rfl) ?_
      refine r_get M hW 0 0 (lv0 _) (v := .ref (ad 3 1)) rfl rfl i_X4 2 (by decide) k_20 (fun _ h9 => h9) rfl dX4_openShare_37 ?_
      refine lv_iload_n hx hb dX4_openShare_40 rfl (lv_at hl 0 rfl) ?_
      refine k_cr (k_rV (As := [.int (nI (k))]) (rest := [.ref (ad 0 0)]) M hW hS (c_Jx4a65c_get_915e3 l D Z N0 g ad 1 k (by decide) (by omega)) (cwV 1 hts gX4_openShare_Jx4a65c_get_915e3 rfl rfl rfl (by decide +kernel) ⟨Nat.le_of_ble_eq_true rfl, Nat.le_of_ble_eq_true rfl⟩) (r_recv M.2 hW 3 1 (show (1 : Nat) < 2 by decide) rfl rfl) rfl hl.1 rfl (Nat.le_of_ble_eq_true rfl) dX4_openShare_41 ⟨Nat.le_of_ble_eq_true rfl, Nat.le_of_ble_eq_true rfl⟩) hS (fun r14_z g13_z H locs hp hW hS => ?_)
      obtain ⟨hf1, hp⟩ := hp
      have hf : Fr g g13_z := hf.trans hf1
      obtain ⟨hp, hg⟩ := hp
      subst hg
      have hp : r14_z = ad 13 k := hp
      subst hp
      refine va_castS hx hb hown (hts _ w_Cond_classLink_RX4_189__StartChain_Secret_) (hC.1.1 5 _ rfl).2 (r_recv hC hW 13 k (hf.lv (Nat.lt_of_lt_of_le (show k < g 3 1 2 by omega) (hW.2.2.2 1 (by decide)).1)) rfl rfl) dX4_openShare_44 ?_
      refine k_ci (k_rV (As := [.ref (ad 13 k)]) (rest := []) M hW hS (c_X4_isOpen l D Z N0 g ad k (hf.lv (Nat.lt_of_lt_of_le (show k < g 3 1 2 by omega) (hW.2.2.2 1 (by decide)).1))) (cwV 1 hts gX4_openShare_X4_isOpen rfl rfl rfl (by decide +kernel) ⟨Nat.le_of_ble_eq_true rfl, Nat.le_of_ble_eq_true rfl⟩) (r_recv M.2 hW 0 0 (lv0 _) rfl rfl) rfl hl.1 rfl (Nat.le_of_ble_eq_true rfl) dX4_openShare_47 ⟨Nat.le_of_ble_eq_true rfl, Nat.le_of_ble_eq_true rfl⟩) hS (fun r16_z g15_z H locs hp hW hS => ?_)
      obtain ⟨hf1, hp⟩ := hp
      have hf : Fr g g15_z := hf.trans hf1
      obtain ⟨hp, hg⟩ := hp
      subst hg
      rcases hp with ⟨rfl, c17_z⟩ | ⟨rfl, c17_z⟩
      · refine n_if_eq (tgt := 56) hx hb (by decide) dX4_openShare_50 (by decide) (fun h9 => absurd h9 (by decide)) (fun _ => ?_)
        refine lv_iinc (v := nI (a + 1)) (lv' := [(1, .int (nI (a + 1))), (2, .int (nI (k))), (0, .ref (ad 0 0))]) hx hb dX4_openShare_53 hl (k := 1) rfl (nI_add _ _) (by decide) rfl (fun ls hl => ?_)
        refine lv_iinc (v := nI (k + 1)) (lv' := [(2, .int (nI (k + 1))), (1, .int (nI (a + 1))), (0, .ref (ad 0 0))]) hx hb dX4_openShare_56 hl (k := 1) rfl (nI_add _ _) (by decide) rfl (fun ls hl => ?_)
        refine lv_goto (tgt := 24) hx hb dX4_openShare_59 (by decide) ?_
        exact ih (by omega) g (a + 1) _ _ _ ⟨rfl, ⟨by rw [cOp_s g k (b := 1) (Or.inl ⟨rfl, c17_z⟩), ← hI1]; try rfl, by omega⟩⟩ hW hS (lv_sub hl [0, 1, 2] rfl)
      · refine n_if_eq (tgt := 56) hx hb (by decide) dX4_openShare_50 (by decide) (fun _ => ?_) (fun h9 => absurd h9 (by decide))
        refine lv_iinc (v := nI (k + 1)) (lv' := [(2, .int (nI (k + 1))), (1, .int (nI (a))), (0, .ref (ad 0 0))]) hx hb dX4_openShare_56 hl (k := 0) rfl (nI_add _ _) (by decide) rfl (fun ls hl => ?_)
        refine lv_goto (tgt := 24) hx hb dX4_openShare_59 (by decide) ?_
        exact ih (by omega) g (a) _ _ _ ⟨rfl, ⟨by rw [cOp_s g k (b := 0) (Or.inr ⟨rfl, c17_z⟩), ← hI1]; try rfl, by omega⟩⟩ hW hS (lv_sub hl [0, 1, 2] rfl)

set_option maxHeartbeats 4000000 in
set_option maxRecDepth 100000 in
theorem c_X4_meanVersion (l : Launch) (hfl : l.stackTraces = false) (D : va_G) (Z : Nat → Nat) (N0 : Nat) (g : T3) (ad : T2) : vx_Met l yX4_meanVersion wsX4_meanVersion ({ frames := 6, cells := 1, slots := 6, locals := 300 } : Room) (PC D Z N0 g ad [.ref (ad 0 0)]) (QD D Z N0 ad (fun (r : UInt64) (g1 : T3) => Fr g g1 ∧ (¬ cRun g = 0 ∧ r = FP.ddiv (FP.i2d (nI (sVer g (cRun g)))) (FP.i2d (nI (cRun g))) ∧ g = g1))) (QX D Z N0 g ad (fun E => E = "java/lang/ArithmeticException" ∧ cRun g = 0)) 1 6 (AA N0) := by
  refine vx_ofW (cc := cX4_meanVersion) (maxL := 4) (ret := (some .double)) (by decide) rfl ?_
  intro pP eP sP mP args below meth cP s₁ B hmlP hnt hvP
  obtain ⟨rfl, hW, hC⟩ := hvP
  have hx := B.exec
  have hb := B.bytes
  have hr := B.returns
  have hts := atoms_spec (ws := wsX4_meanVersion) B.pre
  have hown : sP.vm.findClass RX4 = some mP.cls := findClass_of_methodNamed B.named
  have hlocks := B.notSynchronized
  have i_X4 : ∀ w ∈ wsX40, w ∈ wsX4_meanVersion := (fun _ h => List.mem_cons_of_mem _ (List.mem_append_left _ (List.mem_append_left _ (List.mem_append_left _ (List.mem_append_right _ h)))))
  have k_29 : Cond.fieldLink RX4 29 "StartChain" "lastStart" "LStartChain$Pass;" ∈ wsX4_meanVersion := by decide +kernel
  have i_X1 : ∀ w ∈ wsX10, w ∈ wsX4_meanVersion := (fun _ h => List.mem_cons_of_mem _ (List.mem_append_left _ (List.mem_append_left _ (List.mem_append_right _ h))))
  have k_145 : Cond.fieldLink RX4 145 "StartChain$Pass" "versions" "[I" ∈ wsX4_meanVersion := by decide +kernel
  have w_Cond_classLink_RX4_237__java_lang_ArithmeticException_ : Cond.classLink RX4 237 "java/lang/ArithmeticException" ∈ wsX4_meanVersion := by decide +kernel
  have w_Cond_initialized__java_lang_ArithmeticException_ : Cond.initialized "java/lang/ArithmeticException" ∈ wsX4_meanVersion := by decide +kernel
  have s_ARE : ∀ w ∈ (vx_atS RX4 241 "java/lang/ArithmeticException" thN).filter goodWord, w ∈ wsX4_meanVersion := (fun _ h => List.mem_cons_of_mem _ (List.mem_append_left _ (List.mem_append_right _ h)))
  have M : Mx pP mP cP cX4_meanVersion 4 sP ([.ref (ad 0 0)] : List Value).toArray wsX4_meanVersion RX4 D Z N0 := ⟨⟨hx, hb, hmlP, hown, hts⟩, hC⟩
  have hf : Fr g g := Fr.rf g
  have hS : va_S (AA N0) sP.heap sP.heap [] := va_S.rf
  have hl := lv_entry ([.ref (ad 0 0)]) (n := 4) (Nat.le_of_ble_eq_true rfl)
  rw [lg_entry_eq]
  generalize (lg_sl ([.ref (ad 0 0)]) ++ List.replicate (4 - (lg_sl ([.ref (ad 0 0)])).length) Slot.unset).toArray = ls at hl ⊢
  have hl : lv_has ls 4 [(0, .ref (ad 0 0))] := hl
  refine lv_aload_n hx hb dX4_meanVersion_0 rfl (lv_at hl 0 rfl) ?_
  refine k_ci (k_rV (As := []) (rest := []) M hW hS (c_X4_countRunning l D Z N0 g ad) (cwV 0 hts gX4_meanVersion_X4_countRunning rfl rfl rfl (by decide +kernel) ⟨Nat.le_of_ble_eq_true rfl, Nat.le_of_ble_eq_true rfl⟩) (r_recv M.2 hW 0 0 (lv0 _) rfl rfl) rfl hl.1 rfl (Nat.le_of_ble_eq_true rfl) dX4_meanVersion_1 ⟨Nat.le_of_ble_eq_true rfl, Nat.le_of_ble_eq_true rfl⟩) hS (fun r2_z g1_z H locs hp hW hS => ?_)
  obtain ⟨hf1, hp⟩ := hp
  have hf : Fr g g1_z := hf.trans hf1
  obtain ⟨rfl, hg⟩ := hp
  subst hg
  have hcr9 : cRun g ≤ 6 := by unfold cRun; split; exact Nat.zero_le _; exact hW.2.2.1.le 5 0 5 5 rfl
  refine lv_istore_n (lv' := [(1, .int (nI (cRun g))), (0, .ref (ad 0 0))]) hx hb dX4_meanVersion_4 rfl hl (by decide) rfl (fun ls hl => ?_)
  refine lv_iload_n hx hb dX4_meanVersion_5 rfl (lv_at hl 0 rfl) ?_
  refine n_if_ne (tgt := 19) hx hb (Nat.lt_of_le_of_lt hcr9 (by decide)) dX4_meanVersion_6 (by decide) (fun c3_z => ?_) (fun c3_z => ?_)
  · refine lv_iconst (v := nI 0) hx hb dX4_meanVersion_19 (by decide) ?_
    refine lv_istore_n (lv' := [(2, .int (nI (0))), (1, .int (nI (cRun g))), (0, .ref (ad 0 0))]) hx hb dX4_meanVersion_20 rfl hl (by decide) rfl (fun ls hl => ?_)
    refine lv_iconst (v := nI 0) hx hb dX4_meanVersion_21 (by decide) ?_
    refine lv_istore_n (lv' := [(3, .int (nI (0))), (2, .int (nI (0))), (1, .int (nI (cRun g))), (0, .ref (ad 0 0))]) hx hb dX4_meanVersion_22 rfl hl (by decide) rfl (fun ls hl => ?_)
    refine k_loop (D := D) (Z := Z) (N0 := N0) (ad := ad) (g0 := g) (σ := Nat) (a0 := 0) (cRun g) 4 (0) (fun k gk a => g = gk ∧ (a = sVer g k ∧ k ≤ cRun g)) (fun k a => [(3, .int (nI (k))), (2, .int (nI (a))), (1, .int (nI (cRun g))), (0, .ref (ad 0 0))]) (Nat.zero_le _) ⟨rfl, ⟨rfl, Nat.zero_le _⟩⟩ hW hS (lv_sub hl [0, 1, 2, 3] rfl) (fun n k gk a H locs ls hkn hI hW hS hl ih => ?_)
    obtain ⟨hg, hI⟩ := hI
    subst hg
    obtain ⟨hI1, hI2⟩ := hI; have ha9 : a ≤ k * 99 := by rw [hI1]; exact sVer_le (fun q => hW.2.2.1.le 9 0 q 98 rfl) k
    refine lv_iload_n hx hb dX4_meanVersion_23 rfl (lv_at hl 0 rfl) ?_
    refine lv_iload_n hx hb dX4_meanVersion_24 rfl (lv_at hl 2 rfl) ?_
    refine n_icmp_ge (tgt := 46) hx hb (by omega) (Nat.lt_of_le_of_lt hcr9 (by decide)) dX4_meanVersion_25 (by decide) (fun c4_z => ?_) (fun c4_z => ?_)
    · refine lv_iload_n hx hb dX4_meanVersion_46 rfl (lv_at hl 1 rfl) ?_
      refine lv_i2d hx hb dX4_meanVersion_47 ?_
      refine lv_iload_n hx hb dX4_meanVersion_48 rfl (lv_at hl 2 rfl) ?_
      refine lv_i2d hx hb dX4_meanVersion_49 ?_
      refine lv_ddiv hx hb dX4_meanVersion_50 (ne_d _ (by omega) (by omega) _ (by omega)) ?_
      refine vx_ret ?_
      refine W.widen (k := 1) (n := 6) (Nat.le_of_ble_eq_true rfl) (Nat.le_of_ble_eq_true rfl) ?_
      -- path 1
      exact W.dret (v := FP.ddiv (FP.i2d (nI (a))) (FP.i2d (nI (cRun g)))) hx hb hr (fun t ht hW9 => ⟨⟨FP.ddiv (FP.i2d (nI (a))) (FP.i2d (nI (cRun g))), g, rfl, ⟨hf, ⟨c3_z, by rw [hI1, show k = cRun g by omega], rfl⟩⟩, (show Wd D Z N0 g ad t.heap by rw [ht]; exact hW)⟩, hS.F ht⟩) hS.2.2 dX4_meanVersion_51
    · refine lv_iload_n hx hb dX4_meanVersion_28 rfl (lv_at hl 1 rfl) ?_
      refine lv_aload_n hx hb dX4_meanVersion_29 rfl (lv_at hl 3 rfl) ?_
      refine r_get M hW 0 0 (lv0 _) (v := .ref (ad 5 0)) rfl rfl i_X4 4 (by decide) k_29 (fun _ h9 => h9) rfl dX4_meanVersion_30 ?_
      refine r_get M hW 5 0 (show (0 : Nat) < 2 by decide) (v := .ref (ad 9 0)) rfl rfl i_X1 4 (by decide) k_145 (fun _ h9 => h9) rfl dX4_meanVersion_33 ?_
      refine lv_iload_n hx hb dX4_meanVersion_36 rfl (lv_at hl 0 rfl) ?_
      refine r_iald M hW 9 0 (show (0 : Nat) < 2 by decide) (n := 6) rfl (by omega) (by decide) dX4_meanVersion_37 ?_
      have b5_z : g 9 0 k ≤ 99 := hW.2.2.1.le 9 0 k 98 rfl
      refine n_iadd hx hb dX4_meanVersion_38 ?_
      refine lv_istore_n (lv' := [(2, .int (nI (a + g 9 0 k))), (3, .int (nI (k))), (1, .int (nI (cRun g))), (0, .ref (ad 0 0))]) hx hb dX4_meanVersion_39 rfl hl (by decide) rfl (fun ls hl => ?_)
      refine lv_iinc (v := nI (k + 1)) (lv' := [(3, .int (nI (k + 1))), (2, .int (nI (a + g 9 0 k))), (1, .int (nI (cRun g))), (0, .ref (ad 0 0))]) hx hb dX4_meanVersion_40 hl (k := 1) rfl (nI_add _ _) (by decide) rfl (fun ls hl => ?_)
      refine lv_goto (tgt := 23) hx hb dX4_meanVersion_43 (by decide) ?_
      exact ih (by omega) g (a + g 9 0 k) _ _ _ ⟨rfl, ⟨by rw [hI1]; rfl, by omega⟩⟩ hW hS (lv_sub hl [0, 1, 2, 3] rfl)
  · exact k_throw (cls := "java/lang/ArithmeticException") (text := "no stage runs") M hfl hW hS (by decide +kernel) (by decide +kernel) (by decide +kernel) g_ARE n_ARE w_Cond_classLink_RX4_237__java_lang_ArithmeticException_ w_Cond_initialized__java_lang_ArithmeticException_ s_ARE hl.1 hnt hlocks ⟨rfl, c3_z⟩ dX4_meanVersion_9 dX4_meanVersion_12 dX4_meanVersion_13 dX4_meanVersion_15 dX4_meanVersion_18 (Nat.le_of_ble_eq_true rfl) (Nat.le_of_ble_eq_true rfl) (Nat.le_of_ble_eq_true rfl) (Nat.le_of_ble_eq_true rfl) (Nat.le_of_ble_eq_true rfl) (Nat.le_of_ble_eq_true rfl)
