/-! The model's nextOpen: it counts down. -/
theorem dec_lt {m : Nat} (hm : m < 2 ^ 31) : (nI m - nI 1 < 0) ↔ m = 0 := by
  cases m with
  | zero => exact ⟨fun _ => rfl, fun _ => by decide⟩
  | succ m =>
    rw [pk_sub (a := m + 1) (b := 1) (by omega)]
    exact ⟨fun h => absurd ((nI_ltI (a := m + 1 - 1) (b := 0) (by omega) (by decide)).mp h) (by omega), fun h => absurd h (by omega)⟩
theorem pk_dec (x : Int32) : x + Int32.ofInt (-1) = x - nI 1 := by
  rw [Int32.sub_eq_add_neg]
  rfl
set_option maxHeartbeats 4000000 in
set_option maxRecDepth 100000 in
theorem c_X5_nextOpen (l : Launch) (D : va_G) (Z : Nat → Nat) (N0 : Nat) (g : T3) (ad : T2) (x : Int32) : Met l yX5_nextOpen wsX5_nextOpen ({ frames := 3, cells := 0, slots := 0, locals := 180 } : Room) (PC D Z N0 g ad [.ref (ad 20 0), .int (x)]) (QI D Z N0 ad (fun (r : Int32) (g1 : T3) => Fr g g1 ∧ (((∀ q, q < g 20 0 22 → x ≤ nI q → ¬ mO g q) ∧ r = nI 0 ∧ g1 = up g 20 0 20 1) ∨ (∃ j, j < g 20 0 22 ∧ x ≤ nI j ∧ mO g j ∧ (∀ q, q < j → x ≤ nI q → ¬ mO g q) ∧ r = nI j ∧ g1 = up g 20 0 20 0)))) 0 0 (AA N0) := by
  refine Met.ofW (cc := cX5_nextOpen) (maxL := 4) (ret := (some .int)) (by decide) rfl ?_
  intro pP eP sP mP args below meth cP s₁ B hmlP hvP
  obtain ⟨rfl, hW, hC⟩ := hvP
  have hx := B.exec
  have hb := B.bytes
  have hr := B.returns
  have hts := atoms_spec (ws := wsX5_nextOpen) B.pre
  have hown : sP.vm.findClass RX5 = some mP.cls := findClass_of_methodNamed B.named
  have hlocks := B.notSynchronized
  have i_X5 : ∀ w ∈ wsX50, w ∈ wsX5_nextOpen := (fun _ h => List.mem_cons_of_mem _ (List.mem_append_left _ (List.mem_append_right _ h)))
  have k_79 : Cond.fieldLink RX5 79 "StartChainModel" "secrets" "I" ∈ wsX5_nextOpen := by decide +kernel
  have M : Mx pP mP cP cX5_nextOpen 4 sP ([.ref (ad 20 0), .int (x)] : List Value).toArray wsX5_nextOpen RX5 D Z N0 := ⟨⟨hx, hb, hmlP, hown, hts⟩, hC⟩
  have hf : Fr g g := Fr.rf g
  have hS : va_S (AA N0) sP.heap sP.heap [] := va_S.rf
  have hl := lv_entry ([.ref (ad 20 0), .int (x)]) (n := 4) (Nat.le_of_ble_eq_true rfl)
  rw [lg_entry_eq]
  generalize (lg_sl ([.ref (ad 20 0), .int (x)]) ++ List.replicate (4 - (lg_sl ([.ref (ad 20 0), .int (x)])).length) Slot.unset).toArray = ls at hl ⊢
  have hl : lv_has ls 4 [(0, .ref (ad 20 0)), (1, .int (x))] := hl
  have hsc9 := hW.2.2.1.le 20 0 22 7 rfl
  refine lv_iconst (v := -1) hx hb dX5_nextOpen_0 (by decide) ?_
  refine lv_istore_n (lv' := [(2, .int ((-1))), (0, .ref (ad 20 0)), (1, .int (x))]) hx hb dX5_nextOpen_1 rfl hl (by decide) rfl (fun ls hl => ?_)
  refine lv_aload_n hx hb dX5_nextOpen_2 rfl (lv_at hl 1 rfl) ?_
  have b1_z : g 20 0 22 ≤ 8 := hW.2.2.1.le 20 0 22 7 rfl
  refine r_get M hW 20 0 (lvM _) (v := .int (nI (g 20 0 22))) rfl rfl i_X5 22 (by decide) k_79 (fun _ h9 => h9) rfl dX5_nextOpen_3 ?_
  refine lv_iconst (v := nI 1) hx hb dX5_nextOpen_6 (by decide) ?_
  refine lv_isub hx hb dX5_nextOpen_7 ?_
  refine lv_istore_n (lv' := [(3, .int (nI (g 20 0 22) - nI (1))), (2, .int ((-1))), (0, .ref (ad 20 0)), (1, .int (x))]) hx hb dX5_nextOpen_8 rfl hl (by decide) rfl (fun ls hl => ?_)
  refine k_loop (D := D) (Z := Z) (N0 := N0) (ad := ad) (g0 := g) (σ := Nat) (a0 := 0) (g 20 0 22) 4 (0) (fun k gk a => g = gk ∧ (a ≤ g 20 0 22 ∧ (a = 0 → ∀ q, g 20 0 22 - (k) ≤ q → q < g 20 0 22 → x ≤ nI q → ¬ mO g q) ∧ (¬ a = 0 → g 20 0 22 - (k) ≤ a - 1 ∧ x ≤ nI (a - 1) ∧ mO g (a - 1) ∧ ∀ q, g 20 0 22 - (k) ≤ q → q < a - 1 → x ≤ nI q → ¬ mO g q))) (fun k a => [(3, .int (nI (g 20 0 22 - k) - nI 1)), (2, .int (nI a - nI 1)), (1, .int x), (0, .ref (ad 20 0))]) (Nat.zero_le _) ⟨rfl, Nat.zero_le _, fun _ q h1 h2 => absurd h1 (by omega), fun h => absurd rfl h⟩ hW hS (lv_sub hl [0, 1, 3, 2] rfl) (fun n k gk a H locs ls hkn hI hW hS hl ih => ?_)
  obtain ⟨hg, hI1, hI2, hI3⟩ := hI
  subst hg
  refine lv_iload_n hx hb dX5_nextOpen_9 rfl (lv_at hl 0 rfl) ?_
  refine lv_if_lt (tgt := 34) hx hb dX5_nextOpen_10 (by decide) (fun c2_z => ?_) (fun c2_z => ?_)
  · have hE : ∀ q, q < g 20 0 22 - k → ¬ x ≤ nI q := fun q h => absurd h (by have := (dec_lt (by omega)).mp c2_z; omega)
    refine lv_aload_n hx hb dX5_nextOpen_34 rfl (lv_at hl 3 rfl) ?_
    refine lv_iload_n hx hb dX5_nextOpen_35 rfl (lv_at hl 1 rfl) ?_
    refine lv_if_lt (tgt := 43) hx hb dX5_nextOpen_36 (by decide) (fun c3_z => ?_) (fun c3_z => ?_)
    · refine lv_iconst (v := nI 0) hx hb dX5_nextOpen_43 (by decide) ?_
      refine k_ci (k_rV (As := [.int (nI (0))]) (rest := []) M hW hS (c_X5_checked l D Z N0 g ad 0 (show 0 ≤ 1 by decide)) (cwV 1 hts gX5_nextOpen_X5_checked rfl rfl rfl (by decide +kernel) ⟨Nat.le_of_ble_eq_true rfl, Nat.le_of_ble_eq_true rfl⟩) (r_recv M.2 hW 20 0 (lvM _) rfl rfl) rfl hl.1 rfl (Nat.le_of_ble_eq_true rfl) dX5_nextOpen_44 ⟨Nat.le_of_ble_eq_true rfl, Nat.le_of_ble_eq_true rfl⟩) hS (fun r5_z g4_z H locs hp hW hS => ?_)
      obtain ⟨hf1, hp⟩ := hp
      have hf : Fr g g4_z := hf.trans hf1
      obtain ⟨hr9, eg4_z⟩ := hp
      have hr9 : r5_z = nI 1 := hr9
      subst hr9
      have eg4_z : g4_z = up g 20 0 20 1 := eg4_z
      refine n_if_le (tgt := 54) hx hb (by decide) dX5_nextOpen_47 (by decide) (fun h9 => absurd h9 (by decide)) (fun _ => ?_)
      refine lv_iconst (v := nI 0) hx hb dX5_nextOpen_50 (by decide) ?_
      refine lv_goto (tgt := 55) hx hb dX5_nextOpen_51 (by decide) ?_
      -- path 1
      exact W.iret (v := nI (0)) hx hb hr (fun t ht hW9 => ⟨⟨nI (0), g4_z, rfl, ⟨hf, (by subst eg4_z; exact Or.inl ⟨fun q h1 h2 => if h9 : q < g 20 0 22 - k then absurd h2 (hE q h9) else hI2 ((dec_lt (by omega)).mp c3_z) q (by omega) h1 h2, rfl, rfl⟩)⟩, (show Wd D Z N0 g4_z ad t.heap by rw [ht]; exact hW)⟩, hS.F ht⟩) hS.2.2 dX5_nextOpen_55
    · refine lv_iconst (v := nI 1) hx hb dX5_nextOpen_39 (by decide) ?_
      refine lv_goto (tgt := 44) hx hb dX5_nextOpen_40 (by decide) ?_
      refine k_ci (k_rV (As := [.int (nI (1))]) (rest := []) M hW hS (c_X5_checked l D Z N0 g ad 1 (show 1 ≤ 1 by decide)) (cwV 1 hts gX5_nextOpen_X5_checked rfl rfl rfl (by decide +kernel) ⟨Nat.le_of_ble_eq_true rfl, Nat.le_of_ble_eq_true rfl⟩) (r_recv M.2 hW 20 0 (lvM _) rfl rfl) rfl hl.1 rfl (Nat.le_of_ble_eq_true rfl) dX5_nextOpen_44 ⟨Nat.le_of_ble_eq_true rfl, Nat.le_of_ble_eq_true rfl⟩) hS (fun r8_z g7_z H locs hp hW hS => ?_)
      obtain ⟨hf1, hp⟩ := hp
      have hf : Fr g g7_z := hf.trans hf1
      obtain ⟨hr9, eg7_z⟩ := hp
      have hr9 : r8_z = nI 0 := hr9
      subst hr9
      have eg7_z : g7_z = up g 20 0 20 0 := eg7_z
      refine n_if_le (tgt := 54) hx hb (by decide) dX5_nextOpen_47 (by decide) (fun _ => ?_) (fun h9 => absurd h9 (by decide))
      refine lv_iload_n hx hb dX5_nextOpen_54 rfl (lv_at hl 1 rfl) ?_
      -- path 2
      exact W.iret (v := nI a - nI 1) hx hb hr (fun t ht hW9 => ⟨⟨nI a - nI 1, g7_z, rfl, ⟨hf, (by subst eg7_z; have hz9 : ¬ a = 0 := fun h => c3_z ((dec_lt (by omega)).mpr h); exact Or.inr ⟨a - 1, by omega, (hI3 hz9).2.1, (hI3 hz9).2.2.1, fun q h1 h2 => if h9 : q < g 20 0 22 - k then absurd h2 (hE q h9) else (hI3 hz9).2.2.2 q (by omega) h1 h2, pk_sub (by omega), rfl⟩)⟩, (show Wd D Z N0 g7_z ad t.heap by rw [ht]; exact hW)⟩, hS.F ht⟩) hS.2.2 dX5_nextOpen_55
  · have hm9 : ¬ g 20 0 22 - k = 0 := fun h => c2_z ((dec_lt (by omega)).mpr h)
    have hm1 : nI (g 20 0 22 - k) - nI 1 = nI (g 20 0 22 - k - 1) := pk_sub (by omega)
    rw [hm1] at hl
    refine lv_iload_n hx hb dX5_nextOpen_13 rfl (lv_at hl 0 rfl) ?_
    refine lv_iload_n hx hb dX5_nextOpen_14 rfl (lv_at hl 2 rfl) ?_
    refine lv_icmp_lt (tgt := 34) hx hb dX5_nextOpen_15 (by decide) (fun c10_z => ?_) (fun c10_z => ?_)
    · have hE : ∀ q, q < g 20 0 22 - k → ¬ x ≤ nI q := fun q h h1 => absurd (Int32.le_trans h1 ((nI_leI (a := q) (b := g 20 0 22 - k - 1) (by omega) (by omega)).mpr (by omega))) (Int32.not_le.mpr c10_z)
      refine lv_aload_n hx hb dX5_nextOpen_34 rfl (lv_at hl 3 rfl) ?_
      refine lv_iload_n hx hb dX5_nextOpen_35 rfl (lv_at hl 1 rfl) ?_
      refine lv_if_lt (tgt := 43) hx hb dX5_nextOpen_36 (by decide) (fun c11_z => ?_) (fun c11_z => ?_)
      · refine lv_iconst (v := nI 0) hx hb dX5_nextOpen_43 (by decide) ?_
        refine k_ci (k_rV (As := [.int (nI (0))]) (rest := []) M hW hS (c_X5_checked l D Z N0 g ad 0 (show 0 ≤ 1 by decide)) (cwV 1 hts gX5_nextOpen_X5_checked rfl rfl rfl (by decide +kernel) ⟨Nat.le_of_ble_eq_true rfl, Nat.le_of_ble_eq_true rfl⟩) (r_recv M.2 hW 20 0 (lvM _) rfl rfl) rfl hl.1 rfl (Nat.le_of_ble_eq_true rfl) dX5_nextOpen_44 ⟨Nat.le_of_ble_eq_true rfl, Nat.le_of_ble_eq_true rfl⟩) hS (fun r13_z g12_z H locs hp hW hS => ?_)
        obtain ⟨hf1, hp⟩ := hp
        have hf : Fr g g12_z := hf.trans hf1
        obtain ⟨hr9, eg12_z⟩ := hp
        have hr9 : r13_z = nI 1 := hr9
        subst hr9
        have eg12_z : g12_z = up g 20 0 20 1 := eg12_z
        refine n_if_le (tgt := 54) hx hb (by decide) dX5_nextOpen_47 (by decide) (fun h9 => absurd h9 (by decide)) (fun _ => ?_)
        refine lv_iconst (v := nI 0) hx hb dX5_nextOpen_50 (by decide) ?_
        refine lv_goto (tgt := 55) hx hb dX5_nextOpen_51 (by decide) ?_
        -- path 3
        exact W.iret (v := nI (0)) hx hb hr (fun t ht hW9 => ⟨⟨nI (0), g12_z, rfl, ⟨hf, (by subst eg12_z; exact Or.inl ⟨fun q h1 h2 => if h9 : q < g 20 0 22 - k then absurd h2 (hE q h9) else hI2 ((dec_lt (by omega)).mp c11_z) q (by omega) h1 h2, rfl, rfl⟩)⟩, (show Wd D Z N0 g12_z ad t.heap by rw [ht]; exact hW)⟩, hS.F ht⟩) hS.2.2 dX5_nextOpen_55
      · refine lv_iconst (v := nI 1) hx hb dX5_nextOpen_39 (by decide) ?_
        refine lv_goto (tgt := 44) hx hb dX5_nextOpen_40 (by decide) ?_
        refine k_ci (k_rV (As := [.int (nI (1))]) (rest := []) M hW hS (c_X5_checked l D Z N0 g ad 1 (show 1 ≤ 1 by decide)) (cwV 1 hts gX5_nextOpen_X5_checked rfl rfl rfl (by decide +kernel) ⟨Nat.le_of_ble_eq_true rfl, Nat.le_of_ble_eq_true rfl⟩) (r_recv M.2 hW 20 0 (lvM _) rfl rfl) rfl hl.1 rfl (Nat.le_of_ble_eq_true rfl) dX5_nextOpen_44 ⟨Nat.le_of_ble_eq_true rfl, Nat.le_of_ble_eq_true rfl⟩) hS (fun r16_z g15_z H locs hp hW hS => ?_)
        obtain ⟨hf1, hp⟩ := hp
        have hf : Fr g g15_z := hf.trans hf1
        obtain ⟨hr9, eg15_z⟩ := hp
        have hr9 : r16_z = nI 0 := hr9
        subst hr9
        have eg15_z : g15_z = up g 20 0 20 0 := eg15_z
        refine n_if_le (tgt := 54) hx hb (by decide) dX5_nextOpen_47 (by decide) (fun _ => ?_) (fun h9 => absurd h9 (by decide))
        refine lv_iload_n hx hb dX5_nextOpen_54 rfl (lv_at hl 1 rfl) ?_
        -- path 4
        exact W.iret (v := nI a - nI 1) hx hb hr (fun t ht hW9 => ⟨⟨nI a - nI 1, g15_z, rfl, ⟨hf, (by subst eg15_z; have hz9 : ¬ a = 0 := fun h => c11_z ((dec_lt (by omega)).mpr h); exact Or.inr ⟨a - 1, by omega, (hI3 hz9).2.1, (hI3 hz9).2.2.1, fun q h1 h2 => if h9 : q < g 20 0 22 - k then absurd h2 (hE q h9) else (hI3 hz9).2.2.2 q (by omega) h1 h2, pk_sub (by omega), rfl⟩)⟩, (show Wd D Z N0 g15_z ad t.heap by rw [ht]; exact hW)⟩, hS.F ht⟩) hS.2.2 dX5_nextOpen_55
    · refine lv_aload_n hx hb dX5_nextOpen_18 rfl (lv_at hl 3 rfl) ?_
      refine lv_iload_n hx hb dX5_nextOpen_19 rfl (lv_at hl 0 rfl) ?_
      refine k_ci (k_rV (As := [.int (nI (g 20 0 22 - k - 1))]) (rest := []) M hW hS (c_X5_isOpen l D Z N0 g ad (g 20 0 22 - k - 1) (by omega)) (cwV 1 hts gX5_nextOpen_X5_isOpen rfl rfl rfl (by decide +kernel) ⟨Nat.le_of_ble_eq_true rfl, Nat.le_of_ble_eq_true rfl⟩) (r_recv M.2 hW 20 0 (lvM _) rfl rfl) rfl hl.1 rfl (Nat.le_of_ble_eq_true rfl) dX5_nextOpen_20 ⟨Nat.le_of_ble_eq_true rfl, Nat.le_of_ble_eq_true rfl⟩) hS (fun r19_z g18_z H locs hp hW hS => ?_)
      obtain ⟨hf1, hp⟩ := hp
      have hf : Fr g g18_z := hf.trans hf1
      obtain ⟨hp, hg⟩ := hp
      subst hg
      rcases hp with ⟨rfl, c20_z⟩ | ⟨rfl, c20_z⟩
      · refine n_if_eq (tgt := 28) hx hb (by decide) dX5_nextOpen_23 (by decide) (fun h9 => absurd h9 (by decide)) (fun _ => ?_)
        rw [← hm1] at hl
        refine lv_iload_n hx hb dX5_nextOpen_26 rfl (lv_at hl 0 rfl) ?_
        refine lv_istore_n (lv' := [(2, .int (nI (g 20 0 22 - k) - nI 1)), (3, .int (nI (g 20 0 22 - k) - nI 1)), (1, .int (x)), (0, .ref (ad 20 0))]) hx hb dX5_nextOpen_27 rfl hl (by decide) rfl (fun ls hl => ?_)
        refine lv_iinc (v := nI (g 20 0 22 - k - 1) - nI 1) (lv' := [(3, .int (nI (g 20 0 22 - k - 1) - nI 1)), (2, .int (nI (g 20 0 22 - k) - nI 1)), (1, .int (x)), (0, .ref (ad 20 0))]) hx hb dX5_nextOpen_28 hl (k := 1) rfl (by rw [hm1]; exact pk_dec _) (by decide) rfl (fun ls hl => ?_)
        refine lv_goto (tgt := 9) hx hb dX5_nextOpen_31 (by decide) ?_
        exact ih (by omega) g (g 20 0 22 - k) _ _ _ ⟨rfl, by omega, fun h => absurd h (by omega), fun _ => ⟨by omega, Int32.not_lt.mp c10_z, c20_z, fun q h1 h2 => absurd h1 (by omega)⟩⟩ hW hS (lv_sub hl [0, 1, 2, 3] rfl)
      · refine n_if_eq (tgt := 28) hx hb (by decide) dX5_nextOpen_23 (by decide) (fun _ => ?_) (fun h9 => absurd h9 (by decide))
        refine lv_iinc (v := nI (g 20 0 22 - k - 1) - nI 1) (lv' := [(3, .int (nI (g 20 0 22 - k - 1) - nI 1)), (2, .int (nI a - nI 1)), (1, .int (x)), (0, .ref (ad 20 0))]) hx hb dX5_nextOpen_28 hl (k := 0) rfl (pk_dec _) (by decide) rfl (fun ls hl => ?_)
        refine lv_goto (tgt := 9) hx hb dX5_nextOpen_31 (by decide) ?_
        exact ih (by omega) g (a) _ _ _ ⟨rfl, hI1, fun h q h1 h2 h3 => if h9 : q = g 20 0 22 - k - 1 then h9 ▸ c20_z else hI2 h q (by omega) h2 h3, fun h => ⟨by have := (hI3 h).1; omega, (hI3 h).2.1, (hI3 h).2.2.1, fun q h1 h2 h3 => if h9 : q = g 20 0 22 - k - 1 then h9 ▸ c20_z else (hI3 h).2.2.2 q (by omega) h2 h3⟩⟩ hW hS (lv_sub hl [0, 1, 2, 3] rfl)
