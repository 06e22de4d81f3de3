/-! THE MODEL'S METHODS, fourth part. -/
theorem fit_c {v : Nat} (h : v ≤ 127) : fits .char (.int (nI v)) = true := by
  have h9 : ∀ v, v < 128 → fits .char (.int (nI v)) = true := by decide +kernel
  exact h9 v (Nat.lt_succ_of_le h)
section KITE
variable {p : Program} {l : Launch} {e : Env} {R : Room} {s : State} {m : MethodId} {args : Array Value} {below : List Frame} {meth : Method} {c : Code} {H : Heap} {locs : List Loc} {cells slots : Nat} {Q : State → Prop}
theorem k_ite {P : Prop} [Decidable P] {a b pc pcj : Nat} {ls : Array Slot} {st0 rest : List Value}
    (h : ((P → W p l e R s m args below meth c H locs cells slots Q (F0 m pcj ls (.int (nI a) :: rest))) → (¬ P → W p l e R s m args below meth c H locs cells slots Q (F0 m pcj ls (.int (nI b) :: rest))) → W p l e R s m args below meth c H locs cells slots Q (F0 m pc ls st0)))
    (kk : W p l e R s m args below meth c H locs cells slots Q (F0 m pcj ls (.int (nI (if P then a else b)) :: rest))) : W p l e R s m args below meth c H locs cells slots Q (F0 m pc ls st0) :=
  h (fun q => by rw [if_pos q] at kk; exact kk) (fun q => by rw [if_neg q] at kk; exact kk)
end KITE
def mA (q : Nat × T3) : T3 := up (up (up (up q.2 20 0 19 (if q.1 = 0 then 104 else 114)) 20 0 24 (q.2 20 0 27)) 20 0 23 (q.2 20 0 26)) 20 0 25 (q.2 20 0 25 + q.2 20 0 28)
def cpL (h : T3) : Nat → T3
  | 0 => h
  | k + 1 => up (cpL h k) 32 0 k (cpL h k 35 0 k)
def cpV (h : T3) : Nat → T3
  | 0 => h
  | k + 1 => up (cpV h k) 33 0 k (cpV h k 36 0 k)
def cpR (h : T3) : Nat → T3
  | 0 => h
  | k + 1 => up (up (cpR h k) 30 0 k (cpR h k 34 0 k)) 31 0 k (cpR h k 28 0 (2 * k + cpR h k 34 0 k))
def mStt (q : Nat × T3) : T3 := cpR (cpV (cpL (mA q) 12) 3) (q.2 20 0 27)
def mFa (g : T3) : Nat → T3
  | 0 => g
  | k + 1 => up (mFa g k) 23 0 k 0
def mOp (g : T3) (n : Nat) : Nat := sumN (fun q => if g 20 0 19 = 114 ∧ mOt g q 0 = 0 then 1 else 0) n
theorem mOp_s (g : T3) (n : Nat) {b : Nat} (h : (b = 1 ∧ mO g n) ∨ (b = 0 ∧ ¬ mO g n)) : mOp g (n + 1) = mOp g n + b := by
  show mOp g n + (if g 20 0 19 = 114 ∧ mOt g n 0 = 0 then 1 else 0) = _
  rcases h with ⟨rfl, h⟩ | ⟨rfl, h⟩
  · exact congrArg (mOp g n + ·) (if_pos h)
  · exact congrArg (mOp g n + ·) (if_neg h)
theorem mOp_le (g : T3) : ∀ n, mOp g n ≤ n
  | 0 => Nat.zero_le _
  | n + 1 => by
    rcases Classical.em (mO g n) with h | h
    · rw [mOp_s g n (Or.inl ⟨rfl, h⟩)]; have := mOp_le g n; omega
    · rw [mOp_s g n (Or.inr ⟨rfl, h⟩)]; have := mOp_le g n; omega
def mVe (g : T3) (n : Nat) : Nat := sumN (fun q => g 31 0 q) n
theorem mVe_le {g : T3} (h : ∀ q, g 31 0 q ≤ 99) (n : Nat) : mVe g n ≤ n * 99 := sumN_le h n
set_option maxHeartbeats 4000000 in
set_option maxRecDepth 100000 in
theorem c_X5_start (l : Launch) (D : va_G) (Z : Nat → Nat) (N0 : Nat) (g : T3) (ad : T2) : Met l yX5_start wsX5_start ({ frames := 4, cells := 0, slots := 0, locals := 220 } : Room) (PC D Z N0 g ad [.ref (ad 20 0)]) (QI D Z N0 ad (fun (r : Int32) (g1 : T3) => Fr g g1 ∧ ((¬ (g 20 0 19 = 111 ∧ 0 < g 20 0 21) ∧ r = nI 0 ∧ g1 = up g 20 0 20 1) ∨ (g 20 0 19 = 111 ∧ 0 < g 20 0 21 ∧ r = nI (mGo (up g 20 0 20 0)).1 ∧ g1 = mStt (mGo (up g 20 0 20 0)))))) 0 0 (AA N0) := by
  refine Met.ofW (cc := cX5_start) (maxL := 3) (ret := (some .boolean)) (by decide) rfl ?_
  intro pP eP sP mP args below meth cP s₁ B hmlP hvP
  obtain ⟨rfl, hW, hC⟩ := hvP
  have hx := B.exec
  have hb := B.bytes
  have hr := B.returns
  have hts := atoms_spec (ws := wsX5_start) B.pre
  have hown : sP.vm.findClass RX5 = some mP.cls := findClass_of_methodNamed B.named
  have hlocks := B.notSynchronized
  have i_X5 : ∀ w ∈ wsX50, w ∈ wsX5_start := (fun _ h => List.mem_cons_of_mem _ (List.mem_append_left _ (List.mem_append_right _ h)))
  have k_68 : Cond.fieldLink RX5 68 "StartChainModel" "state" "C" ∈ wsX5_start := by decide +kernel
  have k_76 : Cond.fieldLink RX5 76 "StartChainModel" "stages" "I" ∈ wsX5_start := by decide +kernel
  have k_94 : Cond.fieldLink RX5 94 "StartChainModel" "triedStages" "I" ∈ wsX5_start := by decide +kernel
  have k_85 : Cond.fieldLink RX5 85 "StartChainModel" "running" "I" ∈ wsX5_start := by decide +kernel
  have k_91 : Cond.fieldLink RX5 91 "StartChainModel" "triedEntries" "I" ∈ wsX5_start := by decide +kernel
  have k_82 : Cond.fieldLink RX5 82 "StartChainModel" "entries" "I" ∈ wsX5_start := by decide +kernel
  have k_88 : Cond.fieldLink RX5 88 "StartChainModel" "fallbacks" "I" ∈ wsX5_start := by decide +kernel
  have k_97 : Cond.fieldLink RX5 97 "StartChainModel" "triedFallbacks" "I" ∈ wsX5_start := by decide +kernel
  have k_38 : Cond.fieldLink RX5 38 "StartChainModel" "ran" "[I" ∈ wsX5_start := by decide +kernel
  have k_50 : Cond.fieldLink RX5 50 "StartChainModel" "tried" "[I" ∈ wsX5_start := by decide +kernel
  have k_41 : Cond.fieldLink RX5 41 "StartChainModel" "ranVersions" "[I" ∈ wsX5_start := by decide +kernel
  have k_32 : Cond.fieldLink RX5 32 "StartChainModel" "versions" "[I" ∈ wsX5_start := by decide +kernel
  have k_47 : Cond.fieldLink RX5 47 "StartChainModel" "values" "[I" ∈ wsX5_start := by decide +kernel
  have k_56 : Cond.fieldLink RX5 56 "StartChainModel" "triedValues" "[I" ∈ wsX5_start := by decide +kernel
  have k_44 : Cond.fieldLink RX5 44 "StartChainModel" "log" "[I" ∈ wsX5_start := by decide +kernel
  have k_53 : Cond.fieldLink RX5 53 "StartChainModel" "triedLog" "[I" ∈ wsX5_start := by decide +kernel
  have M : Mx pP mP cP cX5_start 3 sP ([.ref (ad 20 0)] : List Value).toArray wsX5_start RX5 D Z N0 := ⟨⟨hx, hb, hmlP, hown, hts⟩, hC⟩
  have hf : Fr g g := Fr.rf g
  have hS : va_S (AA N0) sP.heap sP.heap [] := va_S.rf
  have hl := lv_entry ([.ref (ad 20 0)]) (n := 3) (Nat.le_of_ble_eq_true rfl)
  rw [lg_entry_eq]
  generalize (lg_sl ([.ref (ad 20 0)]) ++ List.replicate (3 - (lg_sl ([.ref (ad 20 0)])).length) Slot.unset).toArray = ls at hl ⊢
  have hl : lv_has ls 3 [(0, .ref (ad 20 0))] := hl
  have hsz9 := hW.2.2.1.le 20 0 21 5 rfl
  refine lv_aload_n hx hb dX5_start_0 rfl (lv_at hl 0 rfl) ?_
  refine lv_aload_n hx hb dX5_start_1 rfl (lv_at hl 0 rfl) ?_
  have b1_z : g 20 0 19 ≤ 127 := hW.2.2.1.le 20 0 19 126 rfl
  refine r_get M hW 20 0 (lvM _) (v := .int (nI (g 20 0 19))) rfl rfl i_X5 19 (by decide) k_68 (fun _ h9 => h9) rfl dX5_start_2 ?_
  refine lv_bipush (v := nI 111) hx hb dX5_start_5 (by decide) ?_
  refine n_icmp_ne (tgt := 21) hx hb (Nat.lt_of_le_of_lt b1_z (by decide)) (by decide) dX5_start_7 (by decide) (fun c2_z => ?_) (fun c2_z => ?_)
  · refine lv_iconst (v := nI 0) hx hb dX5_start_21 (by decide) ?_
    refine k_ci (k_rV (As := [.int (nI (0))]) (rest := []) M hW hS (c_X5_checked l D Z N0 g ad 0 (show 0 ≤ 1 by decide)) (cwV 1 hts gX5_start_X5_checked rfl rfl rfl (by decide +kernel) ⟨Nat.le_of_ble_eq_true rfl, Nat.le_of_ble_eq_true rfl⟩) (r_recv M.2 hW 20 0 (lvM _) rfl rfl) rfl hl.1 rfl (Nat.le_of_ble_eq_true rfl) dX5_start_22 ⟨Nat.le_of_ble_eq_true rfl, Nat.le_of_ble_eq_true rfl⟩) hS (fun r4_z g3_z H locs hp hW hS => ?_)
    obtain ⟨hf1, hp⟩ := hp
    have hf : Fr g g3_z := hf.trans hf1
    obtain ⟨hr9, eg3_z⟩ := hp
    have hr9 : r4_z = nI 1 := hr9
    subst hr9
    have eg3_z : g3_z = up g 20 0 20 1 := eg3_z
    refine n_if_le (tgt := 30) hx hb (by decide) dX5_start_25 (by decide) (fun h9 => absurd h9 (by decide)) (fun _ => ?_)
    refine lv_iconst (v := nI 0) hx hb dX5_start_28 (by decide) ?_
    -- path 1
    exact W.zret (v := nI (0)) (ty := .boolean) hx hb hr (nar_b (show 0 ≤ 1 by decide)) (fun t ht hW9 => ⟨⟨nI (0), g3_z, rfl, ⟨hf, (by subst eg3_z; exact Or.inl ⟨fun h => c2_z h.1, rfl, rfl⟩)⟩, (show Wd D Z N0 g3_z ad t.heap by rw [ht]; exact hW)⟩, hS.F ht⟩) hS.2.2 dX5_start_29
  · refine lv_aload_n hx hb dX5_start_10 rfl (lv_at hl 0 rfl) ?_
    have b6_z : g 20 0 21 ≤ 6 := hW.2.2.1.le 20 0 21 5 rfl
    refine r_get M hW 20 0 (lvM _) (v := .int (nI (g 20 0 21))) rfl rfl i_X5 21 (by decide) k_76 (fun _ h9 => h9) rfl dX5_start_11 ?_
    refine n_if_le (tgt := 21) hx hb (Nat.lt_of_le_of_lt b6_z (by decide)) dX5_start_14 (by decide) (fun c7_z => ?_) (fun c7_z => ?_)
    · refine lv_iconst (v := nI 0) hx hb dX5_start_21 (by decide) ?_
      refine k_ci (k_rV (As := [.int (nI (0))]) (rest := []) M hW hS (c_X5_checked l D Z N0 g ad 0 (show 0 ≤ 1 by decide)) (cwV 1 hts gX5_start_X5_checked rfl rfl rfl (by decide +kernel) ⟨Nat.le_of_ble_eq_true rfl, Nat.le_of_ble_eq_true rfl⟩) (r_recv M.2 hW 20 0 (lvM _) rfl rfl) rfl hl.1 rfl (Nat.le_of_ble_eq_true rfl) dX5_start_22 ⟨Nat.le_of_ble_eq_true rfl, Nat.le_of_ble_eq_true rfl⟩) hS (fun r9_z g8_z H locs hp hW hS => ?_)
      obtain ⟨hf1, hp⟩ := hp
      have hf : Fr g g8_z := hf.trans hf1
      obtain ⟨hr9, eg8_z⟩ := hp
      have hr9 : r9_z = nI 1 := hr9
      subst hr9
      have eg8_z : g8_z = up g 20 0 20 1 := eg8_z
      refine n_if_le (tgt := 30) hx hb (by decide) dX5_start_25 (by decide) (fun h9 => absurd h9 (by decide)) (fun _ => ?_)
      refine lv_iconst (v := nI 0) hx hb dX5_start_28 (by decide) ?_
      -- path 2
      exact W.zret (v := nI (0)) (ty := .boolean) hx hb hr (nar_b (show 0 ≤ 1 by decide)) (fun t ht hW9 => ⟨⟨nI (0), g8_z, rfl, ⟨hf, (by subst eg8_z; exact Or.inl ⟨fun h => absurd h.2 (by omega), rfl, rfl⟩)⟩, (show Wd D Z N0 g8_z ad t.heap by rw [ht]; exact hW)⟩, hS.F ht⟩) hS.2.2 dX5_start_29
    · refine lv_iconst (v := nI 1) hx hb dX5_start_17 (by decide) ?_
      refine lv_goto (tgt := 22) hx hb dX5_start_18 (by decide) ?_
      refine k_ci (k_rV (As := [.int (nI (1))]) (rest := []) M hW hS (c_X5_checked l D Z N0 g ad 1 (show 1 ≤ 1 by decide)) (cwV 1 hts gX5_start_X5_checked rfl rfl rfl (by decide +kernel) ⟨Nat.le_of_ble_eq_true rfl, Nat.le_of_ble_eq_true rfl⟩) (r_recv M.2 hW 20 0 (lvM _) rfl rfl) rfl hl.1 rfl (Nat.le_of_ble_eq_true rfl) dX5_start_22 ⟨Nat.le_of_ble_eq_true rfl, Nat.le_of_ble_eq_true rfl⟩) hS (fun r12_z g11_z H locs hp hW hS => ?_)
      obtain ⟨hf1, hp⟩ := hp
      have hf : Fr g g11_z := hf.trans hf1
      obtain ⟨hr9, eg11_z⟩ := hp
      have hr9 : r12_z = nI 0 := hr9
      subst hr9
      have eg11_z : g11_z = up g 20 0 20 0 := eg11_z
      refine n_if_le (tgt := 30) hx hb (by decide) dX5_start_25 (by decide) (fun _ => ?_) (fun h9 => absurd h9 (by decide))
      refine lv_aload_n hx hb dX5_start_30 rfl (lv_at hl 0 rfl) ?_
      refine k_ci (k_rV (As := []) (rest := []) M hW hS (c_X5_starts l D Z N0 g11_z ad) (cwV 0 hts gX5_start_X5_starts rfl rfl rfl (by decide +kernel) ⟨Nat.le_of_ble_eq_true rfl, Nat.le_of_ble_eq_true rfl⟩) (r_recv M.2 hW 20 0 (lvM _) rfl rfl) rfl hl.1 rfl (Nat.le_of_ble_eq_true rfl) dX5_start_31 ⟨Nat.le_of_ble_eq_true rfl, Nat.le_of_ble_eq_true rfl⟩) hS (fun r15_z g14_z H locs hp hW hS => ?_)
      obtain ⟨hf1, hp⟩ := hp
      have hf : Fr g g14_z := hf.trans hf1
      obtain ⟨rfl, eg14_z⟩ := hp
      refine lv_istore_n (lv' := [(1, .int (nI ((mGo g11_z).1))), (0, .ref (ad 20 0))]) hx hb dX5_start_34 rfl hl (by decide) rfl (fun ls hl => ?_)
      refine lv_aload_n hx hb dX5_start_35 rfl (lv_at hl 1 rfl) ?_
      refine lv_iload_n hx hb dX5_start_36 rfl (lv_at hl 0 rfl) ?_
      refine k_ite (P := ((mGo g11_z).1) = 0) (a := 104) (b := 114) (pcj := 47) (rest := [.ref (ad 20 0)]) (fun j1 j2 => ?_) ?_
      · refine n_if_eq (tgt := 45) hx hb (Nat.lt_of_le_of_lt (mGo_le g11_z) (by decide)) dX5_start_37 (by decide) (fun c16_z => ?_) (fun c16_z => ?_)
        · refine lv_bipush (v := nI 104) hx hb dX5_start_45 (by decide) ?_
          exact j1 c16_z
        · refine lv_bipush (v := nI 114) hx hb dX5_start_40 (by decide) ?_
          refine lv_goto (tgt := 47) hx hb dX5_start_42 (by decide) ?_
          exact j2 c16_z
      have b17_z : (if ((mGo g11_z).1) = 0 then 104 else 114) ≤ 114 := by split <;> decide
      refine r_put M hW hS 20 0 (lvM _) rfl rfl i_X5 tyX5 tyX5_ok nmX5 19 (by decide) k_68 (fun _ h9 => h9) rfl (ty := .char) (by decide +kernel) (nar_c (Nat.le_trans b17_z (by decide))) (fit_c (Nat.le_trans b17_z (by decide))) (Nat.le_of_ble_eq_true rfl) rfl rfl (Or.inr (Nat.le_trans b17_z (by decide))) dX5_start_47 (fun H locs hW hS => ?_)
      obtain ⟨g18_z, eg18_z⟩ : ∃ z, z = up g14_z 20 0 19 (if ((mGo g11_z).1) = 0 then 104 else 114) := ⟨_, rfl⟩
      rw [← eg18_z] at hW
      have hf : Fr g g18_z := by rw [eg18_z]; exact hf.up rfl
      refine lv_aload_n hx hb dX5_start_50 rfl (lv_at hl 1 rfl) ?_
      refine lv_aload_n hx hb dX5_start_51 rfl (lv_at hl 1 rfl) ?_
      have q19_z : g18_z 20 0 27 = g14_z 20 0 27 := by rw [eg18_z]; first | rfl | simp [up_at]
      have b20_z : g18_z 20 0 27 ≤ 6 := hW.2.2.1.le 20 0 27 5 rfl
      refine r_get M hW 20 0 (lvM _) (v := .int (nI (g18_z 20 0 27))) rfl rfl i_X5 27 (by decide) k_94 (fun _ h9 => h9) rfl dX5_start_52 ?_
      refine r_put M hW hS 20 0 (lvM _) rfl rfl i_X5 tyX5 tyX5_ok nmX5 24 (by decide) k_85 (fun _ h9 => h9) rfl (ty := .int) (by decide +kernel) rfl rfl (Nat.le_of_ble_eq_true rfl) rfl rfl (Or.inr b20_z) dX5_start_55 (fun H locs hW hS => ?_)
      obtain ⟨g21_z, eg21_z⟩ : ∃ z, z = up g18_z 20 0 24 (g18_z 20 0 27) := ⟨_, rfl⟩
      rw [← eg21_z] at hW
      have hf : Fr g g21_z := by rw [eg21_z]; exact hf.up rfl
      refine lv_aload_n hx hb dX5_start_58 rfl (lv_at hl 1 rfl) ?_
      refine lv_aload_n hx hb dX5_start_59 rfl (lv_at hl 1 rfl) ?_
      have q22_z : g21_z 20 0 26 = g14_z 20 0 26 := by rw [eg21_z, eg18_z]; first | rfl | simp [up_at]
      have b23_z : g21_z 20 0 26 ≤ 12 := hW.2.2.1.le 20 0 26 11 rfl
      refine r_get M hW 20 0 (lvM _) (v := .int (nI (g21_z 20 0 26))) rfl rfl i_X5 26 (by decide) k_91 (fun _ h9 => h9) rfl dX5_start_60 ?_
      refine r_put M hW hS 20 0 (lvM _) rfl rfl i_X5 tyX5 tyX5_ok nmX5 23 (by decide) k_82 (fun _ h9 => h9) rfl (ty := .int) (by decide +kernel) rfl rfl (Nat.le_of_ble_eq_true rfl) rfl rfl (Or.inr b23_z) dX5_start_63 (fun H locs hW hS => ?_)
      obtain ⟨g24_z, eg24_z⟩ : ∃ z, z = up g21_z 20 0 23 (g21_z 20 0 26) := ⟨_, rfl⟩
      rw [← eg24_z] at hW
      have hf : Fr g g24_z := by rw [eg24_z]; exact hf.up rfl
      refine lv_aload_n hx hb dX5_start_66 rfl (lv_at hl 1 rfl) ?_
      refine lv_dup hx hb dX5_start_67 rfl ?_
      have q25_z : g24_z 20 0 25 = g14_z 20 0 25 := by rw [eg24_z, eg21_z, eg18_z]; first | rfl | simp [up_at]
      refine r_get M hW 20 0 (lvM _) (v := .int (nI (g24_z 20 0 25))) rfl rfl i_X5 25 (by decide) k_88 (fun _ h9 => h9) rfl dX5_start_68 ?_
      refine lv_aload_n hx hb dX5_start_71 rfl (lv_at hl 1 rfl) ?_
      have q26_z : g24_z 20 0 28 = g14_z 20 0 28 := by rw [eg24_z, eg21_z, eg18_z]; first | rfl | simp [up_at]
      refine r_get M hW 20 0 (lvM _) (v := .int (nI (g24_z 20 0 28))) rfl rfl i_X5 28 (by decide) k_97 (fun _ h9 => h9) rfl dX5_start_72 ?_
      refine n_iadd hx hb dX5_start_75 ?_
      refine r_put M hW hS 20 0 (lvM _) rfl rfl i_X5 tyX5 tyX5_ok nmX5 25 (by decide) k_88 (fun _ h9 => h9) rfl (ty := .int) (by decide +kernel) rfl rfl (Nat.le_of_ble_eq_true rfl) rfl rfl (Or.inl rfl) dX5_start_76 (fun H locs hW hS => ?_)
      obtain ⟨g27_z, eg27_z⟩ : ∃ z, z = up g24_z 20 0 25 (g24_z 20 0 25 + g24_z 20 0 28) := ⟨_, rfl⟩
      rw [← eg27_z] at hW
      have hf : Fr g g27_z := by rw [eg27_z]; exact hf.up rfl
      refine lv_iconst (v := nI 0) hx hb dX5_start_79 (by decide) ?_
      refine lv_istore_n (lv' := [(2, .int (nI (0))), (1, .int (nI ((mGo g11_z).1))), (0, .ref (ad 20 0))]) hx hb dX5_start_80 rfl hl (by decide) rfl (fun ls hl => ?_)
      refine k_loop (D := D) (Z := Z) (N0 := N0) (ad := ad) (g0 := g27_z) (σ := Unit) (a0 := ()) (12) 3 (0) (fun k gk a => Fr g gk ∧ (gk = cpL (mA (mGo (up g 20 0 20 0))) k)) (fun k a => [(2, .int (nI (k))), (1, .int (nI ((mGo g11_z).1))), (0, .ref (ad 20 0))]) (by decide) ⟨hf, (by rw [eg27_z, eg24_z, eg21_z, eg18_z, eg14_z, eg11_z]; try rfl)⟩ hW hS (lv_sub hl [0, 1, 2] rfl) (fun n k gk a H locs ls hkn hI hW hS hl ih => ?_)
      obtain ⟨hf, hI⟩ := hI
      refine lv_iload_n hx hb dX5_start_81 rfl (lv_at hl 0 rfl) ?_
      refine lv_bipush (v := nI 12) hx hb dX5_start_82 (by decide) ?_
      refine n_icmp_ge (tgt := 105) hx hb (by omega) (by decide) dX5_start_84 (by decide) (fun c28_z => ?_) (fun c28_z => ?_)
      · refine lv_iconst (v := nI 0) hx hb dX5_start_105 (by decide) ?_
        refine lv_istore_n (lv' := [(2, .int (nI (0))), (1, .int (nI ((mGo g11_z).1))), (0, .ref (ad 20 0))]) hx hb dX5_start_106 rfl hl (by decide) rfl (fun ls hl => ?_)
        refine k_loop (D := D) (Z := Z) (N0 := N0) (ad := ad) (g0 := gk) (σ := Unit) (a0 := ()) (3) 3 (0) (fun k gk a => Fr g gk ∧ (gk = cpV (cpL (mA (mGo (up g 20 0 20 0))) 12) k)) (fun k a => [(2, .int (nI (k))), (1, .int (nI ((mGo g11_z).1))), (0, .ref (ad 20 0))]) (by decide) ⟨hf, (by rw [hI, show k = 12 by omega]; rfl)⟩ hW hS (lv_sub hl [0, 1, 2] rfl) (fun n k gk a H locs ls hkn hI hW hS hl ih => ?_)
        obtain ⟨hf, hI⟩ := hI
        refine lv_iload_n hx hb dX5_start_107 rfl (lv_at hl 0 rfl) ?_
        refine lv_iconst (v := nI 3) hx hb dX5_start_108 (by decide) ?_
        refine n_icmp_ge (tgt := 130) hx hb (by omega) (by decide) dX5_start_109 (by decide) (fun c29_z => ?_) (fun c29_z => ?_)
        · refine lv_iconst (v := nI 0) hx hb dX5_start_130 (by decide) ?_
          refine lv_istore_n (lv' := [(2, .int (nI (0))), (1, .int (nI ((mGo g11_z).1))), (0, .ref (ad 20 0))]) hx hb dX5_start_131 rfl hl (by decide) rfl (fun ls hl => ?_)
          refine k_loop (D := D) (Z := Z) (N0 := N0) (ad := ad) (g0 := gk) (σ := Unit) (a0 := ()) ((mGo (up g 20 0 20 0)).2 20 0 27) 3 (0) (fun k gk a => Fr g gk ∧ (gk = cpR (cpV (cpL (mA (mGo (up g 20 0 20 0))) 12) 3) k ∧ gk 20 0 24 = (mGo (up g 20 0 20 0)).2 20 0 27)) (fun k a => [(2, .int (nI (k))), (1, .int (nI ((mGo g11_z).1))), (0, .ref (ad 20 0))]) (Nat.zero_le _) ⟨hf, ⟨by rw [hI, show k = 3 by omega]; rfl, by rw [hI, show k = 3 by omega]; rfl⟩⟩ hW hS (lv_sub hl [0, 1, 2] rfl) (fun n k gk a H locs ls hkn hI hW hS hl ih => ?_)
          obtain ⟨hf, hI⟩ := hI
          obtain ⟨hIg, h24⟩ := hI
          refine lv_iload_n hx hb dX5_start_132 rfl (lv_at hl 0 rfl) ?_
          refine lv_aload_n hx hb dX5_start_133 rfl (lv_at hl 2 rfl) ?_
          have b30_z : gk 20 0 24 ≤ 6 := hW.2.2.1.le 20 0 24 5 rfl
          refine r_get M hW 20 0 (lvM _) (v := .int (nI (gk 20 0 24))) rfl rfl i_X5 24 (by decide) k_85 (fun _ h9 => h9) rfl dX5_start_134 ?_
          refine n_icmp_ge (tgt := 179) hx hb (by omega) (Nat.lt_of_le_of_lt b30_z (by decide)) dX5_start_137 (by decide) (fun c31_z => ?_) (fun c31_z => ?_)
          · refine lv_iload_n hx hb dX5_start_179 rfl (lv_at hl 1 rfl) ?_
            -- path 3
            exact W.zret (v := nI ((mGo g11_z).1)) (ty := .boolean) hx hb hr (nar_b (mGo_le g11_z)) (fun t ht hW9 => ⟨⟨nI ((mGo g11_z).1), gk, rfl, ⟨hf, Or.inr ⟨c2_z, by omega, by rw [eg11_z], by unfold mStt; rw [hIg, show k = (mGo (up g 20 0 20 0)).2 20 0 27 by omega]⟩⟩, (show Wd D Z N0 gk ad t.heap by rw [ht]; exact hW)⟩, hS.F ht⟩) hS.2.2 dX5_start_180
          · refine lv_aload_n hx hb dX5_start_140 rfl (lv_at hl 2 rfl) ?_
            refine r_get M hW 20 0 (lvM _) (v := .ref (ad 30 0)) rfl rfl i_X5 9 (by decide) k_38 (fun _ h9 => h9) rfl dX5_start_141 ?_
            refine lv_iload_n hx hb dX5_start_144 rfl (lv_at hl 0 rfl) ?_
            refine lv_aload_n hx hb dX5_start_145 rfl (lv_at hl 2 rfl) ?_
            refine r_get M hW 20 0 (lvM _) (v := .ref (ad 34 0)) rfl rfl i_X5 13 (by decide) k_50 (fun _ h9 => h9) rfl dX5_start_146 ?_
            refine lv_iload_n hx hb dX5_start_149 rfl (lv_at hl 0 rfl) ?_
            refine r_iald M hW 34 0 ⟨rfl, by decide, by decide⟩ (n := 6) rfl (by omega) (by decide) dX5_start_150 ?_
            have b32_z : gk 34 0 k ≤ 1 := hW.2.2.1.le 34 0 k 0 rfl
            refine r_ist M hW hS 30 0 ⟨rfl, by decide, by decide⟩ (n := 6) (fun _ => rfl) (by omega) (by decide) rfl (Or.inr b32_z) dX5_start_151 (fun H locs hW hS => ?_)
            obtain ⟨g33_z, eg33_z⟩ : ∃ z, z = up gk 30 0 k (gk 34 0 k) := ⟨_, rfl⟩
            rw [← eg33_z] at hW
            have hf : Fr g g33_z := by rw [eg33_z]; exact hf.up rfl
            refine lv_aload_n hx hb dX5_start_152 rfl (lv_at hl 2 rfl) ?_
            refine r_get M hW 20 0 (lvM _) (v := .ref (ad 31 0)) rfl rfl i_X5 10 (by decide) k_41 (fun _ h9 => h9) rfl dX5_start_153 ?_
            refine lv_iload_n hx hb dX5_start_156 rfl (lv_at hl 0 rfl) ?_
            refine lv_aload_n hx hb dX5_start_157 rfl (lv_at hl 2 rfl) ?_
            refine r_get M hW 20 0 (lvM _) (v := .ref (ad 28 0)) rfl rfl i_X5 7 (by decide) k_32 (fun _ h9 => h9) rfl dX5_start_158 ?_
            refine lv_iload_n hx hb dX5_start_161 rfl (lv_at hl 0 rfl) ?_
            refine lv_aload_n hx hb dX5_start_162 rfl (lv_at hl 2 rfl) ?_
            refine r_get M hW 20 0 (lvM _) (v := .ref (ad 34 0)) rfl rfl i_X5 13 (by decide) k_50 (fun _ h9 => h9) rfl dX5_start_163 ?_
            refine lv_iload_n hx hb dX5_start_166 rfl (lv_at hl 0 rfl) ?_
            refine r_iald M hW 34 0 ⟨rfl, by decide, by decide⟩ (n := 6) rfl (by omega) (by decide) dX5_start_167 ?_
            have b34_z : g33_z 34 0 k ≤ 1 := hW.2.2.1.le 34 0 k 0 rfl
            refine k_ci (k_rS (As := [.int (nI (k)), .int (nI (g33_z 34 0 k))]) (rest := [.ref (ad 28 0), .int (nI (k)), .ref (ad 31 0)]) M hW hS (c_X5_at l D Z N0 g33_z ad k (g33_z 34 0 k)) (va_cwS 2 hts gX5_start_X5_at rfl rfl rfl (by decide +kernel) ⟨Nat.le_of_ble_eq_true rfl, Nat.le_of_ble_eq_true rfl⟩) rfl hl.1 rfl (Nat.le_of_ble_eq_true rfl) dX5_start_168 ⟨Nat.le_of_ble_eq_true rfl, Nat.le_of_ble_eq_true rfl⟩) hS (fun r36_z g35_z H locs hp hW hS => ?_)
            obtain ⟨hf1, hp⟩ := hp
            have hf : Fr g g35_z := hf.trans hf1
            obtain ⟨rfl, hg⟩ := hp
            subst hg
            refine r_iald M hW 28 0 ⟨rfl, by decide, by decide⟩ (n := 12) rfl (by omega) (by decide) dX5_start_171 ?_
            have b37_z : g33_z 28 0 (2 * k + (g33_z 34 0 k)) ≤ 99 := hW.2.2.1.le 28 0 (2 * k + (g33_z 34 0 k)) 98 rfl
            refine r_ist M hW hS 31 0 ⟨rfl, by decide, by decide⟩ (n := 6) (fun _ => rfl) (by omega) (by decide) rfl (Or.inr b37_z) dX5_start_172 (fun H locs hW hS => ?_)
            obtain ⟨g38_z, eg38_z⟩ : ∃ z, z = up g33_z 31 0 k (g33_z 28 0 (2 * k + (g33_z 34 0 k))) := ⟨_, rfl⟩
            rw [← eg38_z] at hW
            have hf : Fr g g38_z := by rw [eg38_z]; exact hf.up rfl
            refine lv_iinc (v := nI (k + 1)) (lv' := [(2, .int (nI (k + 1))), (1, .int (nI ((mGo g11_z).1))), (0, .ref (ad 20 0))]) hx hb dX5_start_173 hl (k := 0) rfl (nI_add _ _) (by decide) rfl (fun ls hl => ?_)
            refine lv_goto (tgt := 132) hx hb dX5_start_176 (by decide) ?_
            exact ih (by omega) g38_z (()) _ _ _ ⟨hf, ⟨by rw [eg38_z, eg33_z, hIg]; try rfl, by rw [eg38_z, eg33_z]; exact h24⟩⟩ hW hS (lv_sub hl [0, 1, 2] rfl)
        · refine lv_aload_n hx hb dX5_start_112 rfl (lv_at hl 2 rfl) ?_
          refine r_get M hW 20 0 (lvM _) (v := .ref (ad 33 0)) rfl rfl i_X5 12 (by decide) k_47 (fun _ h9 => h9) rfl dX5_start_113 ?_
          refine lv_iload_n hx hb dX5_start_116 rfl (lv_at hl 0 rfl) ?_
          refine lv_aload_n hx hb dX5_start_117 rfl (lv_at hl 2 rfl) ?_
          refine r_get M hW 20 0 (lvM _) (v := .ref (ad 36 0)) rfl rfl i_X5 15 (by decide) k_56 (fun _ h9 => h9) rfl dX5_start_118 ?_
          refine lv_iload_n hx hb dX5_start_121 rfl (lv_at hl 0 rfl) ?_
          refine r_iald M hW 36 0 ⟨rfl, by decide, by decide⟩ (n := 3) rfl (by omega) (by decide) dX5_start_122 ?_
          have b39_z : gk 36 0 k ≤ 9972 := hW.2.2.1.le 36 0 k 9971 rfl
          refine r_ist M hW hS 33 0 ⟨rfl, by decide, by decide⟩ (n := 3) (fun _ => rfl) (by omega) (by decide) rfl (Or.inr b39_z) dX5_start_123 (fun H locs hW hS => ?_)
          obtain ⟨g40_z, eg40_z⟩ : ∃ z, z = up gk 33 0 k (gk 36 0 k) := ⟨_, rfl⟩
          rw [← eg40_z] at hW
          have hf : Fr g g40_z := by rw [eg40_z]; exact hf.up rfl
          refine lv_iinc (v := nI (k + 1)) (lv' := [(2, .int (nI (k + 1))), (1, .int (nI ((mGo g11_z).1))), (0, .ref (ad 20 0))]) hx hb dX5_start_124 hl (k := 0) rfl (nI_add _ _) (by decide) rfl (fun ls hl => ?_)
          refine lv_goto (tgt := 107) hx hb dX5_start_127 (by decide) ?_
          exact ih (by omega) g40_z (()) _ _ _ ⟨hf, (by rw [eg40_z, hI]; try rfl)⟩ hW hS (lv_sub hl [0, 1, 2] rfl)
      · refine lv_aload_n hx hb dX5_start_87 rfl (lv_at hl 2 rfl) ?_
        refine r_get M hW 20 0 (lvM _) (v := .ref (ad 32 0)) rfl rfl i_X5 11 (by decide) k_44 (fun _ h9 => h9) rfl dX5_start_88 ?_
        refine lv_iload_n hx hb dX5_start_91 rfl (lv_at hl 0 rfl) ?_
        refine lv_aload_n hx hb dX5_start_92 rfl (lv_at hl 2 rfl) ?_
        refine r_get M hW 20 0 (lvM _) (v := .ref (ad 35 0)) rfl rfl i_X5 14 (by decide) k_53 (fun _ h9 => h9) rfl dX5_start_93 ?_
        refine lv_iload_n hx hb dX5_start_96 rfl (lv_at hl 0 rfl) ?_
        refine r_iald M hW 35 0 ⟨rfl, by decide, by decide⟩ (n := 12) rfl (by omega) (by decide) dX5_start_97 ?_
        have b41_z : gk 35 0 k ≤ 2999 := hW.2.2.1.le 35 0 k 2998 rfl
        refine r_ist M hW hS 32 0 ⟨rfl, by decide, by decide⟩ (n := 12) (fun _ => rfl) (by omega) (by decide) rfl (Or.inr b41_z) dX5_start_98 (fun H locs hW hS => ?_)
        obtain ⟨g42_z, eg42_z⟩ : ∃ z, z = up gk 32 0 k (gk 35 0 k) := ⟨_, rfl⟩
        rw [← eg42_z] at hW
        have hf : Fr g g42_z := by rw [eg42_z]; exact hf.up rfl
        refine lv_iinc (v := nI (k + 1)) (lv' := [(2, .int (nI (k + 1))), (1, .int (nI ((mGo g11_z).1))), (0, .ref (ad 20 0))]) hx hb dX5_start_99 hl (k := 0) rfl (nI_add _ _) (by decide) rfl (fun ls hl => ?_)
        refine lv_goto (tgt := 81) hx hb dX5_start_102 (by decide) ?_
        exact ih (by omega) g42_z (()) _ _ _ ⟨hf, (by rw [eg42_z, hI]; try rfl)⟩ hW hS (lv_sub hl [0, 1, 2] rfl)

set_option maxHeartbeats 4000000 in
set_option maxRecDepth 100000 in
theorem c_X5_forecast (l : Launch) (D : va_G) (Z : Nat → Nat) (N0 : Nat) (g : T3) (ad : T2) (x : Int32) : Met l yX5_forecast wsX5_forecast ({ frames := 4, cells := 0, slots := 0, locals := 220 } : Room) (PC D Z N0 g ad [.ref (ad 20 0), .int (x)]) (QI D Z N0 ad (fun (r : Int32) (g1 : T3) => Fr g g1 ∧ ((¬ Ix 3 x ∧ r = nI 0 ∧ g1 = up g 20 0 20 1) ∨ (Ix 3 x ∧ g 20 0 21 = 0 ∧ r = nI 0 ∧ g1 = up g 20 0 20 2) ∨ (∃ i, i < 3 ∧ x = nI i ∧ ¬ g 20 0 21 = 0 ∧ r = nI ((mGo (up g 20 0 20 0)).2 36 0 i) ∧ g1 = (mGo (up g 20 0 20 0)).2)))) 0 0 (AA N0) := by
  refine Met.ofW (cc := cX5_forecast) (maxL := 3) (ret := (some .int)) (by decide) rfl ?_
  intro pP eP sP mP args below meth cP s₁ B hmlP hvP
  obtain ⟨rfl, hW, hC⟩ := hvP
  have hx := B.exec
  have hb := B.bytes
  have hr := B.returns
  have hts := atoms_spec (ws := wsX5_forecast) B.pre
  have hown : sP.vm.findClass RX5 = some mP.cls := findClass_of_methodNamed B.named
  have hlocks := B.notSynchronized
  have i_X5 : ∀ w ∈ wsX50, w ∈ wsX5_forecast := (fun _ h => List.mem_cons_of_mem _ (List.mem_append_left _ (List.mem_append_right _ h)))
  have k_76 : Cond.fieldLink RX5 76 "StartChainModel" "stages" "I" ∈ wsX5_forecast := by decide +kernel
  have k_72 : Cond.fieldLink RX5 72 "StartChainModel" "thrown" "I" ∈ wsX5_forecast := by decide +kernel
  have k_56 : Cond.fieldLink RX5 56 "StartChainModel" "triedValues" "[I" ∈ wsX5_forecast := by decide +kernel
  have M : Mx pP mP cP cX5_forecast 3 sP ([.ref (ad 20 0), .int (x)] : List Value).toArray wsX5_forecast RX5 D Z N0 := ⟨⟨hx, hb, hmlP, hown, hts⟩, hC⟩
  have hf : Fr g g := Fr.rf g
  have hS : va_S (AA N0) sP.heap sP.heap [] := va_S.rf
  have hl := lv_entry ([.ref (ad 20 0), .int (x)]) (n := 3) (Nat.le_of_ble_eq_true rfl)
  rw [lg_entry_eq]
  generalize (lg_sl ([.ref (ad 20 0), .int (x)]) ++ List.replicate (3 - (lg_sl ([.ref (ad 20 0), .int (x)])).length) Slot.unset).toArray = ls at hl ⊢
  have hl : lv_has ls 3 [(0, .ref (ad 20 0)), (1, .int (x))] := hl
  refine lv_aload_n hx hb dX5_forecast_0 rfl (lv_at hl 0 rfl) ?_
  refine lv_iload_n hx hb dX5_forecast_1 rfl (lv_at hl 1 rfl) ?_
  refine k_ci (k_rS (As := [.int (x)]) (rest := [.ref (ad 20 0)]) M hW hS (c_X5_isRegister l D Z N0 g ad (x)) (va_cwS 1 hts gX5_forecast_X5_isRegister rfl rfl rfl (by decide +kernel) ⟨Nat.le_of_ble_eq_true rfl, Nat.le_of_ble_eq_true rfl⟩) rfl hl.1 rfl (Nat.le_of_ble_eq_true rfl) dX5_forecast_2 ⟨Nat.le_of_ble_eq_true rfl, Nat.le_of_ble_eq_true rfl⟩) hS (fun r2_z g1_z H locs hp hW hS => ?_)
  obtain ⟨hf1, hp⟩ := hp
  have hf : Fr g g1_z := hf.trans hf1
  obtain ⟨hp, hg⟩ := hp
  subst hg
  rcases hp with ⟨rfl, c3_z⟩ | ⟨rfl, c3_z⟩
  · obtain ⟨i, hi, rfl⟩ := c3_z
    refine n_if_ne (tgt := 12) hx hb (by decide) dX5_forecast_5 (by decide) (fun _ => ?_) (fun h9 => absurd h9 (by decide))
    refine lv_aload_n hx hb dX5_forecast_12 rfl (lv_at hl 0 rfl) ?_
    have b5_z : g 20 0 21 ≤ 6 := hW.2.2.1.le 20 0 21 5 rfl
    refine r_get M hW 20 0 (lvM _) (v := .int (nI (g 20 0 21))) rfl rfl i_X5 21 (by decide) k_76 (fun _ h9 => h9) rfl dX5_forecast_13 ?_
    refine n_if_ne (tgt := 23) hx hb (Nat.lt_of_le_of_lt b5_z (by decide)) dX5_forecast_16 (by decide) (fun c6_z => ?_) (fun c6_z => ?_)
    · refine lv_iconst (v := nI 0) hx hb dX5_forecast_23 (by decide) ?_
      refine r_put M hW hS 20 0 (lvM _) rfl rfl i_X5 tyX5 tyX5_ok nmX5 20 (by decide) k_72 (fun _ h9 => h9) rfl (ty := .int) (by decide +kernel) rfl rfl (Nat.le_of_ble_eq_true rfl) rfl rfl (Or.inr (show 0 ≤ 3 by decide)) dX5_forecast_24 (fun H locs hW hS => ?_)
      obtain ⟨g7_z, eg7_z⟩ : ∃ z, z = up g 20 0 20 0 := ⟨_, rfl⟩
      rw [← eg7_z] at hW
      have hf : Fr g g7_z := by rw [eg7_z]; exact hf.up rfl
      refine lv_aload_n hx hb dX5_forecast_27 rfl (lv_at hl 0 rfl) ?_
      have b8_z : g7_z 20 0 20 ≤ 3 := hW.2.2.1.le 20 0 20 2 rfl
      refine r_get M hW 20 0 (lvM _) (v := .int (nI (g7_z 20 0 20))) rfl rfl i_X5 20 (by decide) k_72 (fun _ h9 => h9) rfl dX5_forecast_28 ?_
      have q9_z : g7_z 20 0 20 = 0 := by rw [eg7_z]; first | rfl | simp [up_at]
      refine W.eq (g2 := F0 mP 31 ls (.int (nI (0)) :: [])) (congrArg (fun z => F0 mP 31 ls (.int (nI z) :: [])) q9_z) ?_
      refine n_if_le (tgt := 36) hx hb (by decide) dX5_forecast_31 (by decide) (fun _ => ?_) (fun h9 => absurd h9 (by decide))
      refine lv_aload_n hx hb dX5_forecast_36 rfl (lv_at hl 0 rfl) ?_
      refine k_ci (k_rV (As := []) (rest := []) M hW hS (c_X5_starts l D Z N0 g7_z ad) (cwV 0 hts gX5_forecast_X5_starts rfl rfl rfl (by decide +kernel) ⟨Nat.le_of_ble_eq_true rfl, Nat.le_of_ble_eq_true rfl⟩) (r_recv M.2 hW 20 0 (lvM _) rfl rfl) rfl hl.1 rfl (Nat.le_of_ble_eq_true rfl) dX5_forecast_37 ⟨Nat.le_of_ble_eq_true rfl, Nat.le_of_ble_eq_true rfl⟩) hS (fun r12_z g11_z H locs hp hW hS => ?_)
      obtain ⟨hf1, hp⟩ := hp
      have hf : Fr g g11_z := hf.trans hf1
      obtain ⟨rfl, eg11_z⟩ := hp
      refine lv_istore_n (lv' := [(2, .int (nI ((mGo g7_z).1))), (0, .ref (ad 20 0)), (1, .int (nI (i)))]) hx hb dX5_forecast_40 rfl hl (by decide) rfl (fun ls hl => ?_)
      refine lv_aload_n hx hb dX5_forecast_41 rfl (lv_at hl 1 rfl) ?_
      refine r_get M hW 20 0 (lvM _) (v := .ref (ad 36 0)) rfl rfl i_X5 15 (by decide) k_56 (fun _ h9 => h9) rfl dX5_forecast_42 ?_
      refine lv_iload_n hx hb dX5_forecast_45 rfl (lv_at hl 2 rfl) ?_
      refine r_iald M hW 36 0 ⟨rfl, by decide, by decide⟩ (n := 3) rfl (Nat.lt_of_le_of_lt (Nat.le_of_lt_succ hi) (by decide)) (by decide) dX5_forecast_46 ?_
      have b13_z : g11_z 36 0 i ≤ 9972 := hW.2.2.1.le 36 0 i 9971 rfl
      -- path 1
      exact W.iret (v := nI (g11_z 36 0 i)) hx hb hr (fun t ht hW9 => ⟨⟨nI (g11_z 36 0 i), g11_z, rfl, ⟨hf, (by subst eg11_z eg7_z; exact Or.inr (Or.inr ⟨i, hi, rfl, c6_z, rfl, rfl⟩))⟩, (show Wd D Z N0 g11_z ad t.heap by rw [ht]; exact hW)⟩, hS.F ht⟩) hS.2.2 dX5_forecast_47
    · refine lv_iconst (v := nI 2) hx hb dX5_forecast_19 (by decide) ?_
      refine lv_goto (tgt := 24) hx hb dX5_forecast_20 (by decide) ?_
      refine r_put M hW hS 20 0 (lvM _) rfl rfl i_X5 tyX5 tyX5_ok nmX5 20 (by decide) k_72 (fun _ h9 => h9) rfl (ty := .int) (by decide +kernel) rfl rfl (Nat.le_of_ble_eq_true rfl) rfl rfl (Or.inr (show 2 ≤ 3 by decide)) dX5_forecast_24 (fun H locs hW hS => ?_)
      obtain ⟨g14_z, eg14_z⟩ : ∃ z, z = up g 20 0 20 2 := ⟨_, rfl⟩
      rw [← eg14_z] at hW
      have hf : Fr g g14_z := by rw [eg14_z]; exact hf.up rfl
      refine lv_aload_n hx hb dX5_forecast_27 rfl (lv_at hl 0 rfl) ?_
      have b15_z : g14_z 20 0 20 ≤ 3 := hW.2.2.1.le 20 0 20 2 rfl
      refine r_get M hW 20 0 (lvM _) (v := .int (nI (g14_z 20 0 20))) rfl rfl i_X5 20 (by decide) k_72 (fun _ h9 => h9) rfl dX5_forecast_28 ?_
      have q16_z : g14_z 20 0 20 = 2 := by rw [eg14_z]; first | rfl | simp [up_at]
      refine W.eq (g2 := F0 mP 31 ls (.int (nI (2)) :: [])) (congrArg (fun z => F0 mP 31 ls (.int (nI z) :: [])) q16_z) ?_
      refine n_if_le (tgt := 36) hx hb (by decide) dX5_forecast_31 (by decide) (fun h9 => absurd h9 (by decide)) (fun _ => ?_)
      refine lv_iconst (v := nI 0) hx hb dX5_forecast_34 (by decide) ?_
      -- path 2
      exact W.iret (v := nI (0)) hx hb hr (fun t ht hW9 => ⟨⟨nI (0), g14_z, rfl, ⟨hf, (by subst eg14_z; exact Or.inr (Or.inl ⟨⟨i, hi, rfl⟩, c6_z, rfl, rfl⟩))⟩, (show Wd D Z N0 g14_z ad t.heap by rw [ht]; exact hW)⟩, hS.F ht⟩) hS.2.2 dX5_forecast_35
  · refine n_if_ne (tgt := 12) hx hb (by decide) dX5_forecast_5 (by decide) (fun h9 => absurd h9 (by decide)) (fun _ => ?_)
    refine lv_iconst (v := nI 1) hx hb dX5_forecast_8 (by decide) ?_
    refine lv_goto (tgt := 24) hx hb dX5_forecast_9 (by decide) ?_
    refine r_put M hW hS 20 0 (lvM _) rfl rfl i_X5 tyX5 tyX5_ok nmX5 20 (by decide) k_72 (fun _ h9 => h9) rfl (ty := .int) (by decide +kernel) rfl rfl (Nat.le_of_ble_eq_true rfl) rfl rfl (Or.inr (show 1 ≤ 3 by decide)) dX5_forecast_24 (fun H locs hW hS => ?_)
    obtain ⟨g19_z, eg19_z⟩ : ∃ z, z = up g 20 0 20 1 := ⟨_, rfl⟩
    rw [← eg19_z] at hW
    have hf : Fr g g19_z := by rw [eg19_z]; exact hf.up rfl
    refine lv_aload_n hx hb dX5_forecast_27 rfl (lv_at hl 0 rfl) ?_
    have b20_z : g19_z 20 0 20 ≤ 3 := hW.2.2.1.le 20 0 20 2 rfl
    refine r_get M hW 20 0 (lvM _) (v := .int (nI (g19_z 20 0 20))) rfl rfl i_X5 20 (by decide) k_72 (fun _ h9 => h9) rfl dX5_forecast_28 ?_
    have q21_z : g19_z 20 0 20 = 1 := by rw [eg19_z]; first | rfl | simp [up_at]
    refine W.eq (g2 := F0 mP 31 ls (.int (nI (1)) :: [])) (congrArg (fun z => F0 mP 31 ls (.int (nI z) :: [])) q21_z) ?_
    refine n_if_le (tgt := 36) hx hb (by decide) dX5_forecast_31 (by decide) (fun h9 => absurd h9 (by decide)) (fun _ => ?_)
    refine lv_iconst (v := nI 0) hx hb dX5_forecast_34 (by decide) ?_
    -- path 3
    exact W.iret (v := nI (0)) hx hb hr (fun t ht hW9 => ⟨⟨nI (0), g19_z, rfl, ⟨hf, (by subst eg19_z; exact Or.inl ⟨c3_z, rfl, rfl⟩)⟩, (show Wd D Z N0 g19_z ad t.heap by rw [ht]; exact hW)⟩, hS.F ht⟩) hS.2.2 dX5_forecast_35

set_option maxHeartbeats 4000000 in
set_option maxRecDepth 100000 in
theorem c_X5_seal (l : Launch) (D : va_G) (Z : Nat → Nat) (N0 : Nat) (g : T3) (ad : T2) (x y : Int32) : Met l yX5_seal wsX5_seal ({ frames := 1, cells := 0, slots := 0, locals := 100 } : Room) (PC D Z N0 g ad [.ref (ad 20 0), .int (x), .int (y)]) (QI D Z N0 ad (fun (r : Int32) (g1 : T3) => Fr g g1 ∧ (((¬ Bt 7 x ∨ ¬ Bt 5 y) ∧ r = nI 0 ∧ g1 = up g 20 0 20 1) ∨ (Bt 7 x ∧ Bt 5 y ∧ (¬ g 20 0 19 = 114 ∨ g 20 0 22 = 8) ∧ r = nI 0 ∧ g1 = up g 20 0 20 2) ∨ (∃ a b, 1 ≤ a ∧ a ≤ 7 ∧ x = nI a ∧ 1 ≤ b ∧ b ≤ 5 ∧ y = nI b ∧ g 20 0 19 = 114 ∧ ¬ g 20 0 22 = 8 ∧ r = nI (g 20 0 22) ∧ g1 = up (mSe (up (up (up g 20 0 20 0) 37 0 (g 20 0 22) a) 38 0 (g 20 0 22) b) (g 20 0 22) 0 3) 20 0 22 (g 20 0 22 + 1))))) 0 0 (AA N0) := by
  refine Met.ofW (cc := cX5_seal) (maxL := 3) (ret := (some .int)) (by decide) rfl ?_
  intro pP eP sP mP args below meth cP s₁ B hmlP hvP
  obtain ⟨rfl, hW, hC⟩ := hvP
  have hx := B.exec
  have hb := B.bytes
  have hr := B.returns
  have hts := atoms_spec (ws := wsX5_seal) B.pre
  have hown : sP.vm.findClass RX5 = some mP.cls := findClass_of_methodNamed B.named
  have hlocks := B.notSynchronized
  have i_X5 : ∀ w ∈ wsX50, w ∈ wsX5_seal := (fun _ h => List.mem_cons_of_mem _ (List.mem_append_left _ (List.mem_append_right _ h)))
  have k_68 : Cond.fieldLink RX5 68 "StartChainModel" "state" "C" ∈ wsX5_seal := by decide +kernel
  have k_72 : Cond.fieldLink RX5 72 "StartChainModel" "thrown" "I" ∈ wsX5_seal := by decide +kernel
  have k_79 : Cond.fieldLink RX5 79 "StartChainModel" "secrets" "I" ∈ wsX5_seal := by decide +kernel
  have k_59 : Cond.fieldLink RX5 59 "StartChainModel" "sealedTo" "[I" ∈ wsX5_seal := by decide +kernel
  have k_62 : Cond.fieldLink RX5 62 "StartChainModel" "needs" "[I" ∈ wsX5_seal := by decide +kernel
  have M : Mx pP mP cP cX5_seal 3 sP ([.ref (ad 20 0), .int (x), .int (y)] : List Value).toArray wsX5_seal RX5 D Z N0 := ⟨⟨hx, hb, hmlP, hown, hts⟩, hC⟩
  have hf : Fr g g := Fr.rf g
  have hS : va_S (AA N0) sP.heap sP.heap [] := va_S.rf
  have hl := lv_entry ([.ref (ad 20 0), .int (x), .int (y)]) (n := 3) (Nat.le_of_ble_eq_true rfl)
  rw [lg_entry_eq]
  generalize (lg_sl ([.ref (ad 20 0), .int (x), .int (y)]) ++ List.replicate (3 - (lg_sl ([.ref (ad 20 0), .int (x), .int (y)])).length) Slot.unset).toArray = ls at hl ⊢
  have hl : lv_has ls 3 [(0, .ref (ad 20 0)), (1, .int (x)), (2, .int (y))] := hl
  have hsc9 := hW.2.2.1.le 20 0 22 7 rfl
  refine lv_aload_n hx hb dX5_seal_0 rfl (lv_at hl 0 rfl) ?_
  refine lv_iload_n hx hb dX5_seal_1 rfl (lv_at hl 1 rfl) ?_
  refine lv_iconst (v := nI 1) hx hb dX5_seal_2 (by decide) ?_
  refine lv_bipush (v := nI 7) hx hb dX5_seal_3 (by decide) ?_
  refine k_ci (k_rS (As := [.int (x), .int (nI (1)), .int (nI (7))]) (rest := [.ref (ad 20 0)]) M hW hS (c_X5_in l D Z N0 g ad (x) (nI (1)) (nI (7))) (va_cwS 3 hts gX5_seal_X5_in rfl rfl rfl (by decide +kernel) ⟨Nat.le_of_ble_eq_true rfl, Nat.le_of_ble_eq_true rfl⟩) rfl hl.1 rfl (Nat.le_of_ble_eq_true rfl) dX5_seal_5 ⟨Nat.le_of_ble_eq_true rfl, Nat.le_of_ble_eq_true rfl⟩) hS (fun r2_z g1_z H locs hp hW hS => ?_)
  obtain ⟨hf1, hp⟩ := hp
  have hf : Fr g g1_z := hf.trans hf1
  obtain ⟨hp, hg⟩ := hp
  subst hg
  rcases hp with ⟨rfl, c3_z⟩ | ⟨rfl, c3_z⟩
  · obtain ⟨a, ha1, ha, rfl⟩ := (bt_iff (n := 7) (by decide)).mp c3_z
    refine n_if_eq (tgt := 20) hx hb (by decide) dX5_seal_8 (by decide) (fun h9 => absurd h9 (by decide)) (fun _ => ?_)
    refine lv_iload_n hx hb dX5_seal_11 rfl (lv_at hl 2 rfl) ?_
    refine lv_iconst (v := nI 1) hx hb dX5_seal_12 (by decide) ?_
    refine lv_iconst (v := nI 5) hx hb dX5_seal_13 (by decide) ?_
    refine k_ci (k_rS (As := [.int (y), .int (nI (1)), .int (nI (5))]) (rest := [.ref (ad 20 0)]) M hW hS (c_X5_in l D Z N0 g ad (y) (nI (1)) (nI (5))) (va_cwS 3 hts gX5_seal_X5_in rfl rfl rfl (by decide +kernel) ⟨Nat.le_of_ble_eq_true rfl, Nat.le_of_ble_eq_true rfl⟩) rfl hl.1 rfl (Nat.le_of_ble_eq_true rfl) dX5_seal_14 ⟨Nat.le_of_ble_eq_true rfl, Nat.le_of_ble_eq_true rfl⟩) hS (fun r6_z g5_z H locs hp hW hS => ?_)
    obtain ⟨hf1, hp⟩ := hp
    have hf : Fr g g5_z := hf.trans hf1
    obtain ⟨hp, hg⟩ := hp
    subst hg
    rcases hp with ⟨rfl, c7_z⟩ | ⟨rfl, c7_z⟩
    · obtain ⟨b, hbb1, hbb, rfl⟩ := (bt_iff (n := 5) (by decide)).mp c7_z
      refine n_if_ne (tgt := 24) hx hb (by decide) dX5_seal_17 (by decide) (fun _ => ?_) (fun h9 => absurd h9 (by decide))
      refine lv_aload_n hx hb dX5_seal_24 rfl (lv_at hl 0 rfl) ?_
      have b9_z : g 20 0 19 ≤ 127 := hW.2.2.1.le 20 0 19 126 rfl
      refine r_get M hW 20 0 (lvM _) (v := .int (nI (g 20 0 19))) rfl rfl i_X5 19 (by decide) k_68 (fun _ h9 => h9) rfl dX5_seal_25 ?_
      refine lv_bipush (v := nI 114) hx hb dX5_seal_28 (by decide) ?_
      refine n_icmp_ne (tgt := 42) hx hb (Nat.lt_of_le_of_lt b9_z (by decide)) (by decide) dX5_seal_30 (by decide) (fun c10_z => ?_) (fun c10_z => ?_)
      · refine lv_iconst (v := nI 2) hx hb dX5_seal_42 (by decide) ?_
        refine lv_goto (tgt := 47) hx hb dX5_seal_43 (by decide) ?_
        refine r_put M hW hS 20 0 (lvM _) rfl rfl i_X5 tyX5 tyX5_ok nmX5 20 (by decide) k_72 (fun _ h9 => h9) rfl (ty := .int) (by decide +kernel) rfl rfl (Nat.le_of_ble_eq_true rfl) rfl rfl (Or.inr (show 2 ≤ 3 by decide)) dX5_seal_47 (fun H locs hW hS => ?_)
        obtain ⟨g11_z, eg11_z⟩ : ∃ z, z = up g 20 0 20 2 := ⟨_, rfl⟩
        rw [← eg11_z] at hW
        have hf : Fr g g11_z := by rw [eg11_z]; exact hf.up rfl
        refine lv_aload_n hx hb dX5_seal_50 rfl (lv_at hl 0 rfl) ?_
        have b12_z : g11_z 20 0 20 ≤ 3 := hW.2.2.1.le 20 0 20 2 rfl
        refine r_get M hW 20 0 (lvM _) (v := .int (nI (g11_z 20 0 20))) rfl rfl i_X5 20 (by decide) k_72 (fun _ h9 => h9) rfl dX5_seal_51 ?_
        have q13_z : g11_z 20 0 20 = 2 := by rw [eg11_z]; first | rfl | simp [up_at]
        refine W.eq (g2 := F0 mP 54 ls (.int (nI (2)) :: [])) (congrArg (fun z => F0 mP 54 ls (.int (nI z) :: [])) q13_z) ?_
        refine n_if_le (tgt := 59) hx hb (by decide) dX5_seal_54 (by decide) (fun h9 => absurd h9 (by decide)) (fun _ => ?_)
        refine lv_iconst (v := nI 0) hx hb dX5_seal_57 (by decide) ?_
        -- path 1
        exact W.iret (v := nI (0)) hx hb hr (fun t ht hW9 => ⟨⟨nI (0), g11_z, rfl, ⟨hf, (by subst eg11_z; exact Or.inr (Or.inl ⟨⟨a, ha1, ha, rfl⟩, ⟨b, hbb1, hbb, rfl⟩, Or.inl c10_z, rfl, rfl⟩))⟩, (show Wd D Z N0 g11_z ad t.heap by rw [ht]; exact hW)⟩, hS.F ht⟩) hS.2.2 dX5_seal_58
      · refine lv_aload_n hx hb dX5_seal_33 rfl (lv_at hl 0 rfl) ?_
        have b15_z : g 20 0 22 ≤ 8 := hW.2.2.1.le 20 0 22 7 rfl
        refine r_get M hW 20 0 (lvM _) (v := .int (nI (g 20 0 22))) rfl rfl i_X5 22 (by decide) k_79 (fun _ h9 => h9) rfl dX5_seal_34 ?_
        refine lv_bipush (v := nI 8) hx hb dX5_seal_37 (by decide) ?_
        refine n_icmp_ne (tgt := 46) hx hb (Nat.lt_of_le_of_lt b15_z (by decide)) (by decide) dX5_seal_39 (by decide) (fun c16_z => ?_) (fun c16_z => ?_)
        · refine lv_iconst (v := nI 0) hx hb dX5_seal_46 (by decide) ?_
          refine r_put M hW hS 20 0 (lvM _) rfl rfl i_X5 tyX5 tyX5_ok nmX5 20 (by decide) k_72 (fun _ h9 => h9) rfl (ty := .int) (by decide +kernel) rfl rfl (Nat.le_of_ble_eq_true rfl) rfl rfl (Or.inr (show 0 ≤ 3 by decide)) dX5_seal_47 (fun H locs hW hS => ?_)
          obtain ⟨g17_z, eg17_z⟩ : ∃ z, z = up g 20 0 20 0 := ⟨_, rfl⟩
          rw [← eg17_z] at hW
          have hf : Fr g g17_z := by rw [eg17_z]; exact hf.up rfl
          refine lv_aload_n hx hb dX5_seal_50 rfl (lv_at hl 0 rfl) ?_
          have b18_z : g17_z 20 0 20 ≤ 3 := hW.2.2.1.le 20 0 20 2 rfl
          refine r_get M hW 20 0 (lvM _) (v := .int (nI (g17_z 20 0 20))) rfl rfl i_X5 20 (by decide) k_72 (fun _ h9 => h9) rfl dX5_seal_51 ?_
          have q19_z : g17_z 20 0 20 = 0 := by rw [eg17_z]; first | rfl | simp [up_at]
          refine W.eq (g2 := F0 mP 54 ls (.int (nI (0)) :: [])) (congrArg (fun z => F0 mP 54 ls (.int (nI z) :: [])) q19_z) ?_
          refine n_if_le (tgt := 59) hx hb (by decide) dX5_seal_54 (by decide) (fun _ => ?_) (fun h9 => absurd h9 (by decide))
          refine lv_aload_n hx hb dX5_seal_59 rfl (lv_at hl 0 rfl) ?_
          refine r_get M hW 20 0 (lvM _) (v := .ref (ad 37 0)) rfl rfl i_X5 16 (by decide) k_59 (fun _ h9 => h9) rfl dX5_seal_60 ?_
          refine lv_aload_n hx hb dX5_seal_63 rfl (lv_at hl 0 rfl) ?_
          have q21_z : g17_z 20 0 22 = g 20 0 22 := by rw [eg17_z]; first | rfl | simp [up_at]
          have b22_z : g17_z 20 0 22 ≤ 8 := hW.2.2.1.le 20 0 22 7 rfl
          refine r_get M hW 20 0 (lvM _) (v := .int (nI (g17_z 20 0 22))) rfl rfl i_X5 22 (by decide) k_79 (fun _ h9 => h9) rfl dX5_seal_64 ?_
          refine lv_iload_n hx hb dX5_seal_67 rfl (lv_at hl 1 rfl) ?_
          refine r_ist M hW hS 37 0 ⟨rfl, by decide, by decide⟩ (n := 8) (fun _ => rfl) (by omega) (by decide) rfl (Or.inr ha) dX5_seal_68 (fun H locs hW hS => ?_)
          obtain ⟨g23_z, eg23_z⟩ : ∃ z, z = up g17_z 37 0 (g17_z 20 0 22) a := ⟨_, rfl⟩
          rw [← eg23_z] at hW
          have hf : Fr g g23_z := by rw [eg23_z]; exact hf.up rfl
          refine lv_aload_n hx hb dX5_seal_69 rfl (lv_at hl 0 rfl) ?_
          refine r_get M hW 20 0 (lvM _) (v := .ref (ad 38 0)) rfl rfl i_X5 17 (by decide) k_62 (fun _ h9 => h9) rfl dX5_seal_70 ?_
          refine lv_aload_n hx hb dX5_seal_73 rfl (lv_at hl 0 rfl) ?_
          have q24_z : g23_z 20 0 22 = g 20 0 22 := by rw [eg23_z, eg17_z]; first | rfl | simp [up_at]
          have b25_z : g23_z 20 0 22 ≤ 8 := hW.2.2.1.le 20 0 22 7 rfl
          refine r_get M hW 20 0 (lvM _) (v := .int (nI (g23_z 20 0 22))) rfl rfl i_X5 22 (by decide) k_79 (fun _ h9 => h9) rfl dX5_seal_74 ?_
          refine lv_iload_n hx hb dX5_seal_77 rfl (lv_at hl 2 rfl) ?_
          refine r_ist M hW hS 38 0 ⟨rfl, by decide, by decide⟩ (n := 8) (fun _ => rfl) (by omega) (by decide) rfl (Or.inr hbb) dX5_seal_78 (fun H locs hW hS => ?_)
          obtain ⟨g26_z, eg26_z⟩ : ∃ z, z = up g23_z 38 0 (g23_z 20 0 22) b := ⟨_, rfl⟩
          rw [← eg26_z] at hW
          have hf : Fr g g26_z := by rw [eg26_z]; exact hf.up rfl
          refine lv_aload_n hx hb dX5_seal_79 rfl (lv_at hl 0 rfl) ?_
          refine lv_aload_n hx hb dX5_seal_80 rfl (lv_at hl 0 rfl) ?_
          have q27_z : g26_z 20 0 22 = g 20 0 22 := by rw [eg26_z, eg23_z, eg17_z]; first | rfl | simp [up_at]
          have b28_z : g26_z 20 0 22 ≤ 8 := hW.2.2.1.le 20 0 22 7 rfl
          refine r_get M hW 20 0 (lvM _) (v := .int (nI (g26_z 20 0 22))) rfl rfl i_X5 22 (by decide) k_79 (fun _ h9 => h9) rfl dX5_seal_81 ?_
          refine lv_iconst (v := nI 0) hx hb dX5_seal_84 (by decide) ?_
          refine k_cv (k_rV (As := [.int (nI (g26_z 20 0 22)), .int (nI (0))]) (rest := []) M hW hS (c_X5_seals l D Z N0 g26_z ad (g26_z 20 0 22) 0 (by omega) (show 0 ≤ 1 by decide)) (cwV 2 hts gX5_seal_X5_seals rfl rfl rfl (by decide +kernel) ⟨Nat.le_of_ble_eq_true rfl, Nat.le_of_ble_eq_true rfl⟩) (r_recv M.2 hW 20 0 (lvM _) rfl rfl) rfl hl.1 rfl (Nat.le_of_ble_eq_true rfl) dX5_seal_85 ⟨Nat.le_of_ble_eq_true rfl, Nat.le_of_ble_eq_true rfl⟩) hS (fun g29_z H locs hp hW hS => ?_)
          obtain ⟨hf1, hp⟩ := hp
          have hf : Fr g g29_z := hf.trans hf1
          have eg29_z : g29_z = mSe g26_z (g26_z 20 0 22) 0 3 := hp
          have f22 : g29_z 20 0 22 = g 20 0 22 := by rw [eg29_z, eg26_z, eg23_z, eg17_z]; rfl
          refine lv_aload_n hx hb dX5_seal_88 rfl (lv_at hl 0 rfl) ?_
          refine lv_dup hx hb dX5_seal_89 rfl ?_
          have b31_z : g29_z 20 0 22 ≤ 8 := hW.2.2.1.le 20 0 22 7 rfl
          refine r_get M hW 20 0 (lvM _) (v := .int (nI (g29_z 20 0 22))) rfl rfl i_X5 22 (by decide) k_79 (fun _ h9 => h9) rfl dX5_seal_90 ?_
          have q32_z : g29_z 20 0 22 = g 20 0 22 := f22
          refine W.eq (g2 := F0 mP 93 ls (.int (nI (g 20 0 22)) :: [.ref (ad 20 0)])) (congrArg (fun z => F0 mP 93 ls (.int (nI z) :: [.ref (ad 20 0)])) q32_z) ?_
          refine lv_iconst (v := nI 1) hx hb dX5_seal_93 (by decide) ?_
          refine n_iadd hx hb dX5_seal_94 ?_
          refine r_put M hW hS 20 0 (lvM _) rfl rfl i_X5 tyX5 tyX5_ok nmX5 22 (by decide) k_79 (fun _ h9 => h9) rfl (ty := .int) (by decide +kernel) rfl rfl (Nat.le_of_ble_eq_true rfl) rfl rfl (Or.inr (show g 20 0 22 + 1 ≤ 8 by omega)) dX5_seal_95 (fun H locs hW hS => ?_)
          obtain ⟨g33_z, eg33_z⟩ : ∃ z, z = up g29_z 20 0 22 (g 20 0 22 + 1) := ⟨_, rfl⟩
          rw [← eg33_z] at hW
          have hf : Fr g g33_z := by rw [eg33_z]; exact hf.up rfl
          refine lv_aload_n hx hb dX5_seal_98 rfl (lv_at hl 0 rfl) ?_
          have b34_z : g33_z 20 0 22 ≤ 8 := hW.2.2.1.le 20 0 22 7 rfl
          refine r_get M hW 20 0 (lvM _) (v := .int (nI (g33_z 20 0 22))) rfl rfl i_X5 22 (by decide) k_79 (fun _ h9 => h9) rfl dX5_seal_99 ?_
          have q35_z : g33_z 20 0 22 = g 20 0 22 + 1 := by rw [eg33_z]; first | rfl | simp [up_at]
          refine W.eq (g2 := F0 mP 102 ls (.int (nI (g 20 0 22 + 1)) :: [])) (congrArg (fun z => F0 mP 102 ls (.int (nI z) :: [])) q35_z) ?_
          refine lv_iconst (v := nI 1) hx hb dX5_seal_102 (by decide) ?_
          refine n_isub hx hb (by omega) dX5_seal_103 ?_
          -- path 2
          exact W.iret (v := nI ((g 20 0 22 + 1) - 1)) hx hb hr (fun t ht hW9 => ⟨⟨nI ((g 20 0 22 + 1) - 1), g33_z, rfl, ⟨hf, (by subst eg33_z eg29_z eg26_z eg23_z eg17_z; exact Or.inr (Or.inr ⟨a, b, ha1, ha, rfl, hbb1, hbb, rfl, c10_z, c16_z, rfl, rfl⟩))⟩, (show Wd D Z N0 g33_z ad t.heap by rw [ht]; exact hW)⟩, hS.F ht⟩) hS.2.2 dX5_seal_104
        · refine lv_iconst (v := nI 2) hx hb dX5_seal_42 (by decide) ?_
          refine lv_goto (tgt := 47) hx hb dX5_seal_43 (by decide) ?_
          refine r_put M hW hS 20 0 (lvM _) rfl rfl i_X5 tyX5 tyX5_ok nmX5 20 (by decide) k_72 (fun _ h9 => h9) rfl (ty := .int) (by decide +kernel) rfl rfl (Nat.le_of_ble_eq_true rfl) rfl rfl (Or.inr (show 2 ≤ 3 by decide)) dX5_seal_47 (fun H locs hW hS => ?_)
          obtain ⟨g36_z, eg36_z⟩ : ∃ z, z = up g 20 0 20 2 := ⟨_, rfl⟩
          rw [← eg36_z] at hW
          have hf : Fr g g36_z := by rw [eg36_z]; exact hf.up rfl
          refine lv_aload_n hx hb dX5_seal_50 rfl (lv_at hl 0 rfl) ?_
          have b37_z : g36_z 20 0 20 ≤ 3 := hW.2.2.1.le 20 0 20 2 rfl
          refine r_get M hW 20 0 (lvM _) (v := .int (nI (g36_z 20 0 20))) rfl rfl i_X5 20 (by decide) k_72 (fun _ h9 => h9) rfl dX5_seal_51 ?_
          have q38_z : g36_z 20 0 20 = 2 := by rw [eg36_z]; first | rfl | simp [up_at]
          refine W.eq (g2 := F0 mP 54 ls (.int (nI (2)) :: [])) (congrArg (fun z => F0 mP 54 ls (.int (nI z) :: [])) q38_z) ?_
          refine n_if_le (tgt := 59) hx hb (by decide) dX5_seal_54 (by decide) (fun h9 => absurd h9 (by decide)) (fun _ => ?_)
          refine lv_iconst (v := nI 0) hx hb dX5_seal_57 (by decide) ?_
          -- path 3
          exact W.iret (v := nI (0)) hx hb hr (fun t ht hW9 => ⟨⟨nI (0), g36_z, rfl, ⟨hf, (by subst eg36_z; exact Or.inr (Or.inl ⟨⟨a, ha1, ha, rfl⟩, ⟨b, hbb1, hbb, rfl⟩, Or.inr c16_z, rfl, rfl⟩))⟩, (show Wd D Z N0 g36_z ad t.heap by rw [ht]; exact hW)⟩, hS.F ht⟩) hS.2.2 dX5_seal_58
    · refine n_if_ne (tgt := 24) hx hb (by decide) dX5_seal_17 (by decide) (fun h9 => absurd h9 (by decide)) (fun _ => ?_)
      refine lv_iconst (v := nI 1) hx hb dX5_seal_20 (by decide) ?_
      refine lv_goto (tgt := 47) hx hb dX5_seal_21 (by decide) ?_
      refine r_put M hW hS 20 0 (lvM _) rfl rfl i_X5 tyX5 tyX5_ok nmX5 20 (by decide) k_72 (fun _ h9 => h9) rfl (ty := .int) (by decide +kernel) rfl rfl (Nat.le_of_ble_eq_true rfl) rfl rfl (Or.inr (show 1 ≤ 3 by decide)) dX5_seal_47 (fun H locs hW hS => ?_)
      obtain ⟨g41_z, eg41_z⟩ : ∃ z, z = up g 20 0 20 1 := ⟨_, rfl⟩
      rw [← eg41_z] at hW
      have hf : Fr g g41_z := by rw [eg41_z]; exact hf.up rfl
      refine lv_aload_n hx hb dX5_seal_50 rfl (lv_at hl 0 rfl) ?_
      have b42_z : g41_z 20 0 20 ≤ 3 := hW.2.2.1.le 20 0 20 2 rfl
      refine r_get M hW 20 0 (lvM _) (v := .int (nI (g41_z 20 0 20))) rfl rfl i_X5 20 (by decide) k_72 (fun _ h9 => h9) rfl dX5_seal_51 ?_
      have q43_z : g41_z 20 0 20 = 1 := by rw [eg41_z]; first | rfl | simp [up_at]
      refine W.eq (g2 := F0 mP 54 ls (.int (nI (1)) :: [])) (congrArg (fun z => F0 mP 54 ls (.int (nI z) :: [])) q43_z) ?_
      refine n_if_le (tgt := 59) hx hb (by decide) dX5_seal_54 (by decide) (fun h9 => absurd h9 (by decide)) (fun _ => ?_)
      refine lv_iconst (v := nI 0) hx hb dX5_seal_57 (by decide) ?_
      -- path 4
      exact W.iret (v := nI (0)) hx hb hr (fun t ht hW9 => ⟨⟨nI (0), g41_z, rfl, ⟨hf, (by subst eg41_z; exact Or.inl ⟨Or.inr (fun h => c7_z ((bt_iff (n := 5) (by decide)).mpr h)), rfl, rfl⟩)⟩, (show Wd D Z N0 g41_z ad t.heap by rw [ht]; exact hW)⟩, hS.F ht⟩) hS.2.2 dX5_seal_58
  · refine n_if_eq (tgt := 20) hx hb (by decide) dX5_seal_8 (by decide) (fun _ => ?_) (fun h9 => absurd h9 (by decide))
    refine lv_iconst (v := nI 1) hx hb dX5_seal_20 (by decide) ?_
    refine lv_goto (tgt := 47) hx hb dX5_seal_21 (by decide) ?_
    refine r_put M hW hS 20 0 (lvM _) rfl rfl i_X5 tyX5 tyX5_ok nmX5 20 (by decide) k_72 (fun _ h9 => h9) rfl (ty := .int) (by decide +kernel) rfl rfl (Nat.le_of_ble_eq_true rfl) rfl rfl (Or.inr (show 1 ≤ 3 by decide)) dX5_seal_47 (fun H locs hW hS => ?_)
    obtain ⟨g46_z, eg46_z⟩ : ∃ z, z = up g 20 0 20 1 := ⟨_, rfl⟩
    rw [← eg46_z] at hW
    have hf : Fr g g46_z := by rw [eg46_z]; exact hf.up rfl
    refine lv_aload_n hx hb dX5_seal_50 rfl (lv_at hl 0 rfl) ?_
    have b47_z : g46_z 20 0 20 ≤ 3 := hW.2.2.1.le 20 0 20 2 rfl
    refine r_get M hW 20 0 (lvM _) (v := .int (nI (g46_z 20 0 20))) rfl rfl i_X5 20 (by decide) k_72 (fun _ h9 => h9) rfl dX5_seal_51 ?_
    have q48_z : g46_z 20 0 20 = 1 := by rw [eg46_z]; first | rfl | simp [up_at]
    refine W.eq (g2 := F0 mP 54 ls (.int (nI (1)) :: [])) (congrArg (fun z => F0 mP 54 ls (.int (nI z) :: [])) q48_z) ?_
    refine n_if_le (tgt := 59) hx hb (by decide) dX5_seal_54 (by decide) (fun h9 => absurd h9 (by decide)) (fun _ => ?_)
    refine lv_iconst (v := nI 0) hx hb dX5_seal_57 (by decide) ?_
    -- path 5
    exact W.iret (v := nI (0)) hx hb hr (fun t ht hW9 => ⟨⟨nI (0), g46_z, rfl, ⟨hf, (by subst eg46_z; exact Or.inl ⟨Or.inl (fun h => c3_z ((bt_iff (n := 7) (by decide)).mpr h)), rfl, rfl⟩)⟩, (show Wd D Z N0 g46_z ad t.heap by rw [ht]; exact hW)⟩, hS.F ht⟩) hS.2.2 dX5_seal_58

set_option maxHeartbeats 4000000 in
set_option maxRecDepth 100000 in
theorem c_X5_sealAhead (l : Launch) (D : va_G) (Z : Nat → Nat) (N0 : Nat) (g : T3) (ad : T2) (x : Int32) : Met l yX5_sealAhead wsX5_sealAhead ({ frames := 4, cells := 0, slots := 0, locals := 220 } : Room) (PC D Z N0 g ad [.ref (ad 20 0), .int (x)]) (QI D Z N0 ad (fun (r : Int32) (g1 : T3) => Fr g g1 ∧ ((¬ Ix (g 20 0 22) x ∧ r = nI 0 ∧ g1 = up g 20 0 20 1) ∨ (∃ j, j < g 20 0 22 ∧ x = nI j ∧ ¬ mO g j ∧ r = nI 0 ∧ g1 = up g 20 0 20 2) ∨ (∃ j, j < g 20 0 22 ∧ x = nI j ∧ mO g j ∧ r = nI (mOt (mGo (up g 20 0 20 0)).2 j 1) ∧ g1 = mSe (mGo (up g 20 0 20 0)).2 j 1 3)))) 0 0 (AA N0) := by
  refine Met.ofW (cc := cX5_sealAhead) (maxL := 4) (ret := (some .int)) (by decide) rfl ?_
  intro pP eP sP mP args below meth cP s₁ B hmlP hvP
  obtain ⟨rfl, hW, hC⟩ := hvP
  have hx := B.exec
  have hb := B.bytes
  have hr := B.returns
  have hts := atoms_spec (ws := wsX5_sealAhead) B.pre
  have hown : sP.vm.findClass RX5 = some mP.cls := findClass_of_methodNamed B.named
  have hlocks := B.notSynchronized
  have i_X5 : ∀ w ∈ wsX50, w ∈ wsX5_sealAhead := (fun _ h => List.mem_cons_of_mem _ (List.mem_append_left _ (List.mem_append_right _ h)))
  have k_72 : Cond.fieldLink RX5 72 "StartChainModel" "thrown" "I" ∈ wsX5_sealAhead := by decide +kernel
  have M : Mx pP mP cP cX5_sealAhead 4 sP ([.ref (ad 20 0), .int (x)] : List Value).toArray wsX5_sealAhead RX5 D Z N0 := ⟨⟨hx, hb, hmlP, hown, hts⟩, hC⟩
  have hf : Fr g g := Fr.rf g
  have hS : va_S (AA N0) sP.heap sP.heap [] := va_S.rf
  have hl := lv_entry ([.ref (ad 20 0), .int (x)]) (n := 4) (Nat.le_of_ble_eq_true rfl)
  rw [lg_entry_eq]
  generalize (lg_sl ([.ref (ad 20 0), .int (x)]) ++ List.replicate (4 - (lg_sl ([.ref (ad 20 0), .int (x)])).length) Slot.unset).toArray = ls at hl ⊢
  have hl : lv_has ls 4 [(0, .ref (ad 20 0)), (1, .int (x))] := hl
  have hsc9 := hW.2.2.1.le 20 0 22 7 rfl
  refine lv_aload_n hx hb dX5_sealAhead_0 rfl (lv_at hl 0 rfl) ?_
  refine lv_aload_n hx hb dX5_sealAhead_1 rfl (lv_at hl 0 rfl) ?_
  refine lv_iload_n hx hb dX5_sealAhead_2 rfl (lv_at hl 1 rfl) ?_
  refine k_ci (k_rV (As := [.int (x)]) (rest := [.ref (ad 20 0)]) M hW hS (c_X5_isSecret l D Z N0 g ad (x)) (cwV 1 hts gX5_sealAhead_X5_isSecret rfl rfl rfl (by decide +kernel) ⟨Nat.le_of_ble_eq_true rfl, Nat.le_of_ble_eq_true rfl⟩) (r_recv M.2 hW 20 0 (lvM _) rfl rfl) rfl hl.1 rfl (Nat.le_of_ble_eq_true rfl) dX5_sealAhead_3 ⟨Nat.le_of_ble_eq_true rfl, Nat.le_of_ble_eq_true rfl⟩) hS (fun r2_z g1_z H locs hp hW hS => ?_)
  obtain ⟨hf1, hp⟩ := hp
  have hf : Fr g g1_z := hf.trans hf1
  obtain ⟨hp, hg⟩ := hp
  subst hg
  rcases hp with ⟨rfl, c3_z⟩ | ⟨rfl, c3_z⟩
  · obtain ⟨i, hi, rfl⟩ := c3_z
    refine n_if_ne (tgt := 13) hx hb (by decide) dX5_sealAhead_6 (by decide) (fun _ => ?_) (fun h9 => absurd h9 (by decide))
    refine lv_aload_n hx hb dX5_sealAhead_13 rfl (lv_at hl 0 rfl) ?_
    refine lv_iload_n hx hb dX5_sealAhead_14 rfl (lv_at hl 1 rfl) ?_
    refine k_ci (k_rV (As := [.int (nI (i))]) (rest := [.ref (ad 20 0)]) M hW hS (c_X5_isOpen l D Z N0 g ad i (by omega)) (cwV 1 hts gX5_sealAhead_X5_isOpen rfl rfl rfl (by decide +kernel) ⟨Nat.le_of_ble_eq_true rfl, Nat.le_of_ble_eq_true rfl⟩) (r_recv M.2 hW 20 0 (lvM _) rfl rfl) rfl hl.1 rfl (Nat.le_of_ble_eq_true rfl) dX5_sealAhead_15 ⟨Nat.le_of_ble_eq_true rfl, Nat.le_of_ble_eq_true rfl⟩) hS (fun r6_z g5_z H locs hp hW hS => ?_)
    obtain ⟨hf1, hp⟩ := hp
    have hf : Fr g g5_z := hf.trans hf1
    obtain ⟨hp, hg⟩ := hp
    subst hg
    rcases hp with ⟨rfl, c7_z⟩ | ⟨rfl, c7_z⟩
    · refine n_if_ne (tgt := 25) hx hb (by decide) dX5_sealAhead_18 (by decide) (fun _ => ?_) (fun h9 => absurd h9 (by decide))
      refine lv_iconst (v := nI 0) hx hb dX5_sealAhead_25 (by decide) ?_
      refine r_put M hW hS 20 0 (lvM _) rfl rfl i_X5 tyX5 tyX5_ok nmX5 20 (by decide) k_72 (fun _ h9 => h9) rfl (ty := .int) (by decide +kernel) rfl rfl (Nat.le_of_ble_eq_true rfl) rfl rfl (Or.inr (show 0 ≤ 3 by decide)) dX5_sealAhead_26 (fun H locs hW hS => ?_)
      obtain ⟨g9_z, eg9_z⟩ : ∃ z, z = up g 20 0 20 0 := ⟨_, rfl⟩
      rw [← eg9_z] at hW
      have hf : Fr g g9_z := by rw [eg9_z]; exact hf.up rfl
      refine lv_aload_n hx hb dX5_sealAhead_29 rfl (lv_at hl 0 rfl) ?_
      have b10_z : g9_z 20 0 20 ≤ 3 := hW.2.2.1.le 20 0 20 2 rfl
      refine r_get M hW 20 0 (lvM _) (v := .int (nI (g9_z 20 0 20))) rfl rfl i_X5 20 (by decide) k_72 (fun _ h9 => h9) rfl dX5_sealAhead_30 ?_
      have q11_z : g9_z 20 0 20 = 0 := by rw [eg9_z]; first | rfl | simp [up_at]
      refine W.eq (g2 := F0 mP 33 ls (.int (nI (0)) :: [])) (congrArg (fun z => F0 mP 33 ls (.int (nI z) :: [])) q11_z) ?_
      refine n_if_le (tgt := 38) hx hb (by decide) dX5_sealAhead_33 (by decide) (fun _ => ?_) (fun h9 => absurd h9 (by decide))
      refine lv_aload_n hx hb dX5_sealAhead_38 rfl (lv_at hl 0 rfl) ?_
      refine k_ci (k_rV (As := []) (rest := []) M hW hS (c_X5_starts l D Z N0 g9_z ad) (cwV 0 hts gX5_sealAhead_X5_starts rfl rfl rfl (by decide +kernel) ⟨Nat.le_of_ble_eq_true rfl, Nat.le_of_ble_eq_true rfl⟩) (r_recv M.2 hW 20 0 (lvM _) rfl rfl) rfl hl.1 rfl (Nat.le_of_ble_eq_true rfl) dX5_sealAhead_39 ⟨Nat.le_of_ble_eq_true rfl, Nat.le_of_ble_eq_true rfl⟩) hS (fun r14_z g13_z H locs hp hW hS => ?_)
      obtain ⟨hf1, hp⟩ := hp
      have hf : Fr g g13_z := hf.trans hf1
      obtain ⟨rfl, eg13_z⟩ := hp
      refine lv_istore_n (lv' := [(2, .int (nI ((mGo g9_z).1))), (0, .ref (ad 20 0)), (1, .int (nI (i)))]) hx hb dX5_sealAhead_42 rfl hl (by decide) rfl (fun ls hl => ?_)
      refine lv_aload_n hx hb dX5_sealAhead_43 rfl (lv_at hl 1 rfl) ?_
      refine lv_iload_n hx hb dX5_sealAhead_44 rfl (lv_at hl 2 rfl) ?_
      refine lv_iconst (v := nI 1) hx hb dX5_sealAhead_45 (by decide) ?_
      refine k_ci (k_rV (As := [.int (nI (i)), .int (nI (1))]) (rest := []) M hW hS (c_X5_others l D Z N0 g13_z ad i 1 (by omega) (show 1 ≤ 1 by decide)) (cwV 2 hts gX5_sealAhead_X5_others rfl rfl rfl (by decide +kernel) ⟨Nat.le_of_ble_eq_true rfl, Nat.le_of_ble_eq_true rfl⟩) (r_recv M.2 hW 20 0 (lvM _) rfl rfl) rfl hl.1 rfl (Nat.le_of_ble_eq_true rfl) dX5_sealAhead_46 ⟨Nat.le_of_ble_eq_true rfl, Nat.le_of_ble_eq_true rfl⟩) hS (fun r16_z g15_z H locs hp hW hS => ?_)
      obtain ⟨hf1, hp⟩ := hp
      have hf : Fr g g15_z := hf.trans hf1
      obtain ⟨rfl, hg⟩ := hp
      subst hg
      refine lv_istore_n (lv' := [(3, .int (nI (mOt g13_z i 1))), (2, .int (nI ((mGo g9_z).1))), (0, .ref (ad 20 0)), (1, .int (nI (i)))]) hx hb dX5_sealAhead_49 rfl hl (by decide) rfl (fun ls hl => ?_)
      refine lv_aload_n hx hb dX5_sealAhead_50 rfl (lv_at hl 2 rfl) ?_
      refine lv_iload_n hx hb dX5_sealAhead_51 rfl (lv_at hl 3 rfl) ?_
      refine lv_iconst (v := nI 1) hx hb dX5_sealAhead_52 (by decide) ?_
      refine k_cv (k_rV (As := [.int (nI (i)), .int (nI (1))]) (rest := []) M hW hS (c_X5_seals l D Z N0 g13_z ad i 1 (by omega) (show 1 ≤ 1 by decide)) (cwV 2 hts gX5_sealAhead_X5_seals rfl rfl rfl (by decide +kernel) ⟨Nat.le_of_ble_eq_true rfl, Nat.le_of_ble_eq_true rfl⟩) (r_recv M.2 hW 20 0 (lvM _) rfl rfl) rfl hl.1 rfl (Nat.le_of_ble_eq_true rfl) dX5_sealAhead_53 ⟨Nat.le_of_ble_eq_true rfl, Nat.le_of_ble_eq_true rfl⟩) hS (fun g17_z H locs hp hW hS => ?_)
      obtain ⟨hf1, hp⟩ := hp
      have hf : Fr g g17_z := hf.trans hf1
      have eg17_z : g17_z = mSe g13_z i 1 3 := hp
      refine lv_iload_n hx hb dX5_sealAhead_56 rfl (lv_at hl 0 rfl) ?_
      -- path 1
      exact W.iret (v := nI (mOt g13_z i 1)) hx hb hr (fun t ht hW9 => ⟨⟨nI (mOt g13_z i 1), g17_z, rfl, ⟨hf, (by subst eg17_z eg13_z eg9_z; exact Or.inr (Or.inr ⟨i, hi, rfl, c7_z, rfl, rfl⟩))⟩, (show Wd D Z N0 g17_z ad t.heap by rw [ht]; exact hW)⟩, hS.F ht⟩) hS.2.2 dX5_sealAhead_57
    · refine n_if_ne (tgt := 25) hx hb (by decide) dX5_sealAhead_18 (by decide) (fun h9 => absurd h9 (by decide)) (fun _ => ?_)
      refine lv_iconst (v := nI 2) hx hb dX5_sealAhead_21 (by decide) ?_
      refine lv_goto (tgt := 26) hx hb dX5_sealAhead_22 (by decide) ?_
      refine r_put M hW hS 20 0 (lvM _) rfl rfl i_X5 tyX5 tyX5_ok nmX5 20 (by decide) k_72 (fun _ h9 => h9) rfl (ty := .int) (by decide +kernel) rfl rfl (Nat.le_of_ble_eq_true rfl) rfl rfl (Or.inr (show 2 ≤ 3 by decide)) dX5_sealAhead_26 (fun H locs hW hS => ?_)
      obtain ⟨g20_z, eg20_z⟩ : ∃ z, z = up g 20 0 20 2 := ⟨_, rfl⟩
      rw [← eg20_z] at hW
      have hf : Fr g g20_z := by rw [eg20_z]; exact hf.up rfl
      refine lv_aload_n hx hb dX5_sealAhead_29 rfl (lv_at hl 0 rfl) ?_
      have b21_z : g20_z 20 0 20 ≤ 3 := hW.2.2.1.le 20 0 20 2 rfl
      refine r_get M hW 20 0 (lvM _) (v := .int (nI (g20_z 20 0 20))) rfl rfl i_X5 20 (by decide) k_72 (fun _ h9 => h9) rfl dX5_sealAhead_30 ?_
      have q22_z : g20_z 20 0 20 = 2 := by rw [eg20_z]; first | rfl | simp [up_at]
      refine W.eq (g2 := F0 mP 33 ls (.int (nI (2)) :: [])) (congrArg (fun z => F0 mP 33 ls (.int (nI z) :: [])) q22_z) ?_
      refine n_if_le (tgt := 38) hx hb (by decide) dX5_sealAhead_33 (by decide) (fun h9 => absurd h9 (by decide)) (fun _ => ?_)
      refine lv_iconst (v := nI 0) hx hb dX5_sealAhead_36 (by decide) ?_
      -- path 2
      exact W.iret (v := nI (0)) hx hb hr (fun t ht hW9 => ⟨⟨nI (0), g20_z, rfl, ⟨hf, (by subst eg20_z; exact Or.inr (Or.inl ⟨i, hi, rfl, c7_z, rfl, rfl⟩))⟩, (show Wd D Z N0 g20_z ad t.heap by rw [ht]; exact hW)⟩, hS.F ht⟩) hS.2.2 dX5_sealAhead_37
  · refine n_if_ne (tgt := 13) hx hb (by decide) dX5_sealAhead_6 (by decide) (fun h9 => absurd h9 (by decide)) (fun _ => ?_)
    refine lv_iconst (v := nI 1) hx hb dX5_sealAhead_9 (by decide) ?_
    refine lv_goto (tgt := 26) hx hb dX5_sealAhead_10 (by decide) ?_
    refine r_put M hW hS 20 0 (lvM _) rfl rfl i_X5 tyX5 tyX5_ok nmX5 20 (by decide) k_72 (fun _ h9 => h9) rfl (ty := .int) (by decide +kernel) rfl rfl (Nat.le_of_ble_eq_true rfl) rfl rfl (Or.inr (show 1 ≤ 3 by decide)) dX5_sealAhead_26 (fun H locs hW hS => ?_)
    obtain ⟨g25_z, eg25_z⟩ : ∃ z, z = up g 20 0 20 1 := ⟨_, rfl⟩
    rw [← eg25_z] at hW
    have hf : Fr g g25_z := by rw [eg25_z]; exact hf.up rfl
    refine lv_aload_n hx hb dX5_sealAhead_29 rfl (lv_at hl 0 rfl) ?_
    have b26_z : g25_z 20 0 20 ≤ 3 := hW.2.2.1.le 20 0 20 2 rfl
    refine r_get M hW 20 0 (lvM _) (v := .int (nI (g25_z 20 0 20))) rfl rfl i_X5 20 (by decide) k_72 (fun _ h9 => h9) rfl dX5_sealAhead_30 ?_
    have q27_z : g25_z 20 0 20 = 1 := by rw [eg25_z]; first | rfl | simp [up_at]
    refine W.eq (g2 := F0 mP 33 ls (.int (nI (1)) :: [])) (congrArg (fun z => F0 mP 33 ls (.int (nI z) :: [])) q27_z) ?_
    refine n_if_le (tgt := 38) hx hb (by decide) dX5_sealAhead_33 (by decide) (fun h9 => absurd h9 (by decide)) (fun _ => ?_)
    refine lv_iconst (v := nI 0) hx hb dX5_sealAhead_36 (by decide) ?_
    -- path 3
    exact W.iret (v := nI (0)) hx hb hr (fun t ht hW9 => ⟨⟨nI (0), g25_z, rfl, ⟨hf, (by subst eg25_z; exact Or.inl ⟨c3_z, rfl, rfl⟩)⟩, (show Wd D Z N0 g25_z ad t.heap by rw [ht]; exact hW)⟩, hS.F ht⟩) hS.2.2 dX5_sealAhead_37

set_option maxHeartbeats 4000000 in
set_option maxRecDepth 100000 in
theorem c_X5_isLost (l : Launch) (D : va_G) (Z : Nat → Nat) (N0 : Nat) (g : T3) (ad : T2) (x : Int32) : Met l yX5_isLost wsX5_isLost ({ frames := 4, cells := 0, slots := 0, locals := 220 } : Room) (PC D Z N0 g ad [.ref (ad 20 0), .int (x)]) (QI D Z N0 ad (fun (r : Int32) (g1 : T3) => Fr g g1 ∧ ((¬ Ix (g 20 0 22) x ∧ r = nI 0 ∧ g1 = up g 20 0 20 1) ∨ (∃ j, j < g 20 0 22 ∧ x = nI j ∧ bP r (¬ (¬ (mGo (up g 20 0 20 0)).1 = 0 ∧ mOt (mGo (up g 20 0 20 0)).2 j 1 = 0)) ∧ g1 = (mGo (up g 20 0 20 0)).2)))) 0 0 (AA N0) := by
  refine Met.ofW (cc := cX5_isLost) (maxL := 3) (ret := (some .boolean)) (by decide) rfl ?_
  intro pP eP sP mP args below meth cP s₁ B hmlP hvP
  obtain ⟨rfl, hW, hC⟩ := hvP
  have hx := B.exec
  have hb := B.bytes
  have hr := B.returns
  have hts := atoms_spec (ws := wsX5_isLost) B.pre
  have hown : sP.vm.findClass RX5 = some mP.cls := findClass_of_methodNamed B.named
  have hlocks := B.notSynchronized
  have M : Mx pP mP cP cX5_isLost 3 sP ([.ref (ad 20 0), .int (x)] : List Value).toArray wsX5_isLost RX5 D Z N0 := ⟨⟨hx, hb, hmlP, hown, hts⟩, hC⟩
  have hf : Fr g g := Fr.rf g
  have hS : va_S (AA N0) sP.heap sP.heap [] := va_S.rf
  have hl := lv_entry ([.ref (ad 20 0), .int (x)]) (n := 3) (Nat.le_of_ble_eq_true rfl)
  rw [lg_entry_eq]
  generalize (lg_sl ([.ref (ad 20 0), .int (x)]) ++ List.replicate (3 - (lg_sl ([.ref (ad 20 0), .int (x)])).length) Slot.unset).toArray = ls at hl ⊢
  have hl : lv_has ls 3 [(0, .ref (ad 20 0)), (1, .int (x))] := hl
  have hsc9 := hW.2.2.1.le 20 0 22 7 rfl
  refine lv_aload_n hx hb dX5_isLost_0 rfl (lv_at hl 0 rfl) ?_
  refine lv_aload_n hx hb dX5_isLost_1 rfl (lv_at hl 0 rfl) ?_
  refine lv_iload_n hx hb dX5_isLost_2 rfl (lv_at hl 1 rfl) ?_
  refine k_ci (k_rV (As := [.int (x)]) (rest := [.ref (ad 20 0)]) M hW hS (c_X5_isSecret l D Z N0 g ad (x)) (cwV 1 hts gX5_isLost_X5_isSecret rfl rfl rfl (by decide +kernel) ⟨Nat.le_of_ble_eq_true rfl, Nat.le_of_ble_eq_true rfl⟩) (r_recv M.2 hW 20 0 (lvM _) rfl rfl) rfl hl.1 rfl (Nat.le_of_ble_eq_true rfl) dX5_isLost_3 ⟨Nat.le_of_ble_eq_true rfl, Nat.le_of_ble_eq_true rfl⟩) hS (fun r2_z g1_z H locs hp hW hS => ?_)
  obtain ⟨hf1, hp⟩ := hp
  have hf : Fr g g1_z := hf.trans hf1
  obtain ⟨hp, hg⟩ := hp
  subst hg
  rcases hp with ⟨rfl, c3_z⟩ | ⟨rfl, c3_z⟩
  · obtain ⟨i, hi, rfl⟩ := c3_z
    refine k_ci (k_rV (As := [.int (nI (1))]) (rest := []) M hW hS (c_X5_checked l D Z N0 g ad 1 (show 1 ≤ 1 by decide)) (cwV 1 hts gX5_isLost_X5_checked rfl rfl rfl (by decide +kernel) ⟨Nat.le_of_ble_eq_true rfl, Nat.le_of_ble_eq_true rfl⟩) (r_recv M.2 hW 20 0 (lvM _) rfl rfl) rfl hl.1 rfl (Nat.le_of_ble_eq_true rfl) dX5_isLost_6 ⟨Nat.le_of_ble_eq_true rfl, Nat.le_of_ble_eq_true rfl⟩) hS (fun r5_z g4_z H locs hp hW hS => ?_)
    obtain ⟨hf1, hp⟩ := hp
    have hf : Fr g g4_z := hf.trans hf1
    obtain ⟨hr9, eg4_z⟩ := hp
    have hr9 : r5_z = nI 0 := hr9
    subst hr9
    have eg4_z : g4_z = up g 20 0 20 0 := eg4_z
    refine n_if_le (tgt := 14) hx hb (by decide) dX5_isLost_9 (by decide) (fun _ => ?_) (fun h9 => absurd h9 (by decide))
    refine lv_aload_n hx hb dX5_isLost_14 rfl (lv_at hl 0 rfl) ?_
    refine k_ci (k_rV (As := []) (rest := []) M hW hS (c_X5_starts l D Z N0 g4_z ad) (cwV 0 hts gX5_isLost_X5_starts rfl rfl rfl (by decide +kernel) ⟨Nat.le_of_ble_eq_true rfl, Nat.le_of_ble_eq_true rfl⟩) (r_recv M.2 hW 20 0 (lvM _) rfl rfl) rfl hl.1 rfl (Nat.le_of_ble_eq_true rfl) dX5_isLost_15 ⟨Nat.le_of_ble_eq_true rfl, Nat.le_of_ble_eq_true rfl⟩) hS (fun r8_z g7_z H locs hp hW hS => ?_)
    obtain ⟨hf1, hp⟩ := hp
    have hf : Fr g g7_z := hf.trans hf1
    obtain ⟨rfl, eg7_z⟩ := hp
    refine lv_istore_n (lv' := [(2, .int (nI ((mGo g4_z).1))), (0, .ref (ad 20 0)), (1, .int (nI (i)))]) hx hb dX5_isLost_18 rfl hl (by decide) rfl (fun ls hl => ?_)
    refine lv_iload_n hx hb dX5_isLost_19 rfl (lv_at hl 0 rfl) ?_
    refine n_if_eq (tgt := 32) hx hb (Nat.lt_of_le_of_lt (mGo_le g4_z) (by decide)) dX5_isLost_20 (by decide) (fun c9_z => ?_) (fun c9_z => ?_)
    · refine lv_iconst (v := nI 1) hx hb dX5_isLost_32 (by decide) ?_
      refine lv_goto (tgt := 37) hx hb dX5_isLost_33 (by decide) ?_
      -- path 1
      exact W.zret (v := nI (1)) (ty := .boolean) hx hb hr (nar_b (show 1 ≤ 1 by decide)) (fun t ht hW9 => ⟨⟨nI (1), g7_z, rfl, ⟨hf, (by subst eg7_z eg4_z; exact Or.inr ⟨i, hi, rfl, Or.inl ⟨rfl, fun h => h.1 c9_z⟩, rfl⟩)⟩, (show Wd D Z N0 g7_z ad t.heap by rw [ht]; exact hW)⟩, hS.F ht⟩) hS.2.2 dX5_isLost_37
    · refine lv_aload_n hx hb dX5_isLost_23 rfl (lv_at hl 1 rfl) ?_
      refine lv_iload_n hx hb dX5_isLost_24 rfl (lv_at hl 2 rfl) ?_
      refine lv_iconst (v := nI 1) hx hb dX5_isLost_25 (by decide) ?_
      refine k_ci (k_rV (As := [.int (nI (i)), .int (nI (1))]) (rest := []) M hW hS (c_X5_others l D Z N0 g7_z ad i 1 (by omega) (show 1 ≤ 1 by decide)) (cwV 2 hts gX5_isLost_X5_others rfl rfl rfl (by decide +kernel) ⟨Nat.le_of_ble_eq_true rfl, Nat.le_of_ble_eq_true rfl⟩) (r_recv M.2 hW 20 0 (lvM _) rfl rfl) rfl hl.1 rfl (Nat.le_of_ble_eq_true rfl) dX5_isLost_26 ⟨Nat.le_of_ble_eq_true rfl, Nat.le_of_ble_eq_true rfl⟩) hS (fun r11_z g10_z H locs hp hW hS => ?_)
      obtain ⟨hf1, hp⟩ := hp
      have hf : Fr g g10_z := hf.trans hf1
      obtain ⟨rfl, hg⟩ := hp
      subst hg
      refine n_if_le (tgt := 36) hx hb (Nat.lt_of_le_of_lt (mOt_le g7_z i 1) (by decide)) dX5_isLost_29 (by decide) (fun c12_z => ?_) (fun c12_z => ?_)
      · refine lv_iconst (v := nI 0) hx hb dX5_isLost_36 (by decide) ?_
        -- path 2
        exact W.zret (v := nI (0)) (ty := .boolean) hx hb hr (nar_b (show 0 ≤ 1 by decide)) (fun t ht hW9 => ⟨⟨nI (0), g7_z, rfl, ⟨hf, (by subst eg7_z eg4_z; exact Or.inr ⟨i, hi, rfl, Or.inr ⟨rfl, fun h => h ⟨c9_z, Nat.le_zero.mp c12_z⟩⟩, rfl⟩)⟩, (show Wd D Z N0 g7_z ad t.heap by rw [ht]; exact hW)⟩, hS.F ht⟩) hS.2.2 dX5_isLost_37
      · refine lv_iconst (v := nI 1) hx hb dX5_isLost_32 (by decide) ?_
        refine lv_goto (tgt := 37) hx hb dX5_isLost_33 (by decide) ?_
        -- path 3
        exact W.zret (v := nI (1)) (ty := .boolean) hx hb hr (nar_b (show 1 ≤ 1 by decide)) (fun t ht hW9 => ⟨⟨nI (1), g7_z, rfl, ⟨hf, (by subst eg7_z eg4_z; exact Or.inr ⟨i, hi, rfl, Or.inl ⟨rfl, fun h => c12_z (Nat.le_of_eq h.2)⟩, rfl⟩)⟩, (show Wd D Z N0 g7_z ad t.heap by rw [ht]; exact hW)⟩, hS.F ht⟩) hS.2.2 dX5_isLost_37
  · refine k_ci (k_rV (As := [.int (nI (0))]) (rest := []) M hW hS (c_X5_checked l D Z N0 g ad 0 (show 0 ≤ 1 by decide)) (cwV 1 hts gX5_isLost_X5_checked rfl rfl rfl (by decide +kernel) ⟨Nat.le_of_ble_eq_true rfl, Nat.le_of_ble_eq_true rfl⟩) (r_recv M.2 hW 20 0 (lvM _) rfl rfl) rfl hl.1 rfl (Nat.le_of_ble_eq_true rfl) dX5_isLost_6 ⟨Nat.le_of_ble_eq_true rfl, Nat.le_of_ble_eq_true rfl⟩) hS (fun r14_z g13_z H locs hp hW hS => ?_)
    obtain ⟨hf1, hp⟩ := hp
    have hf : Fr g g13_z := hf.trans hf1
    obtain ⟨hr9, eg13_z⟩ := hp
    have hr9 : r14_z = nI 1 := hr9
    subst hr9
    have eg13_z : g13_z = up g 20 0 20 1 := eg13_z
    refine n_if_le (tgt := 14) hx hb (by decide) dX5_isLost_9 (by decide) (fun h9 => absurd h9 (by decide)) (fun _ => ?_)
    refine lv_iconst (v := nI 0) hx hb dX5_isLost_12 (by decide) ?_
    -- path 4
    exact W.zret (v := nI (0)) (ty := .boolean) hx hb hr (nar_b (show 0 ≤ 1 by decide)) (fun t ht hW9 => ⟨⟨nI (0), g13_z, rfl, ⟨hf, (by subst eg13_z; exact Or.inl ⟨c3_z, rfl, rfl⟩)⟩, (show Wd D Z N0 g13_z ad t.heap by rw [ht]; exact hW)⟩, hS.F ht⟩) hS.2.2 dX5_isLost_13

set_option maxHeartbeats 4000000 in
set_option maxRecDepth 100000 in
theorem c_X5_recover (l : Launch) (D : va_G) (Z : Nat → Nat) (N0 : Nat) (g : T3) (ad : T2) (x : Int32) : Met l yX5_recover wsX5_recover ({ frames := 4, cells := 0, slots := 0, locals := 220 } : Room) (PC D Z N0 g ad [.ref (ad 20 0), .int (x)]) (QI D Z N0 ad (fun (r : Int32) (g1 : T3) => Fr g g1 ∧ ((¬ Ix (g 20 0 22) x ∧ r = nI 0 ∧ g1 = up g 20 0 20 1) ∨ (∃ j, j < g 20 0 22 ∧ x = nI j ∧ (¬ g 20 0 19 = 114 ∨ mO g j) ∧ r = nI 0 ∧ g1 = up g 20 0 20 2) ∨ (∃ j, j < g 20 0 22 ∧ x = nI j ∧ g 20 0 19 = 114 ∧ ¬ mO g j ∧ mAg g < g 38 0 j ∧ r = nI 0 ∧ g1 = up g 20 0 20 3) ∨ (∃ j, j < g 20 0 22 ∧ x = nI j ∧ g 20 0 19 = 114 ∧ ¬ mO g j ∧ g 38 0 j ≤ mAg g ∧ r = nI (mAg g) ∧ g1 = mFa (mSe (up g 20 0 20 0) j 0 3) 5)))) 0 0 (AA N0) := by
  refine Met.ofW (cc := cX5_recover) (maxL := 4) (ret := (some .int)) (by decide) rfl ?_
  intro pP eP sP mP args below meth cP s₁ B hmlP hvP
  obtain ⟨rfl, hW, hC⟩ := hvP
  have hx := B.exec
  have hb := B.bytes
  have hr := B.returns
  have hts := atoms_spec (ws := wsX5_recover) B.pre
  have hown : sP.vm.findClass RX5 = some mP.cls := findClass_of_methodNamed B.named
  have hlocks := B.notSynchronized
  have i_X5 : ∀ w ∈ wsX50, w ∈ wsX5_recover := (fun _ h => List.mem_cons_of_mem _ (List.mem_append_left _ (List.mem_append_right _ h)))
  have k_68 : Cond.fieldLink RX5 68 "StartChainModel" "state" "C" ∈ wsX5_recover := by decide +kernel
  have k_72 : Cond.fieldLink RX5 72 "StartChainModel" "thrown" "I" ∈ wsX5_recover := by decide +kernel
  have k_62 : Cond.fieldLink RX5 62 "StartChainModel" "needs" "[I" ∈ wsX5_recover := by decide +kernel
  have k_16 : Cond.fieldLink RX5 16 "StartChainModel" "agree" "[Z" ∈ wsX5_recover := by decide +kernel
  have M : Mx pP mP cP cX5_recover 4 sP ([.ref (ad 20 0), .int (x)] : List Value).toArray wsX5_recover RX5 D Z N0 := ⟨⟨hx, hb, hmlP, hown, hts⟩, hC⟩
  have hf : Fr g g := Fr.rf g
  have hS : va_S (AA N0) sP.heap sP.heap [] := va_S.rf
  have hl := lv_entry ([.ref (ad 20 0), .int (x)]) (n := 4) (Nat.le_of_ble_eq_true rfl)
  rw [lg_entry_eq]
  generalize (lg_sl ([.ref (ad 20 0), .int (x)]) ++ List.replicate (4 - (lg_sl ([.ref (ad 20 0), .int (x)])).length) Slot.unset).toArray = ls at hl ⊢
  have hl : lv_has ls 4 [(0, .ref (ad 20 0)), (1, .int (x))] := hl
  have hsc9 := hW.2.2.1.le 20 0 22 7 rfl
  refine lv_aload_n hx hb dX5_recover_0 rfl (lv_at hl 0 rfl) ?_
  refine lv_aload_n hx hb dX5_recover_1 rfl (lv_at hl 0 rfl) ?_
  refine lv_iload_n hx hb dX5_recover_2 rfl (lv_at hl 1 rfl) ?_
  refine k_ci (k_rV (As := [.int (x)]) (rest := [.ref (ad 20 0)]) M hW hS (c_X5_isSecret l D Z N0 g ad (x)) (cwV 1 hts gX5_recover_X5_isSecret rfl rfl rfl (by decide +kernel) ⟨Nat.le_of_ble_eq_true rfl, Nat.le_of_ble_eq_true rfl⟩) (r_recv M.2 hW 20 0 (lvM _) rfl rfl) rfl hl.1 rfl (Nat.le_of_ble_eq_true rfl) dX5_recover_3 ⟨Nat.le_of_ble_eq_true rfl, Nat.le_of_ble_eq_true rfl⟩) hS (fun r2_z g1_z H locs hp hW hS => ?_)
  obtain ⟨hf1, hp⟩ := hp
  have hf : Fr g g1_z := hf.trans hf1
  obtain ⟨hp, hg⟩ := hp
  subst hg
  rcases hp with ⟨rfl, c3_z⟩ | ⟨rfl, c3_z⟩
  · obtain ⟨i, hi, rfl⟩ := c3_z
    refine n_if_ne (tgt := 13) hx hb (by decide) dX5_recover_6 (by decide) (fun _ => ?_) (fun h9 => absurd h9 (by decide))
    refine lv_aload_n hx hb dX5_recover_13 rfl (lv_at hl 0 rfl) ?_
    have b5_z : g 20 0 19 ≤ 127 := hW.2.2.1.le 20 0 19 126 rfl
    refine r_get M hW 20 0 (lvM _) (v := .int (nI (g 20 0 19))) rfl rfl i_X5 19 (by decide) k_68 (fun _ h9 => h9) rfl dX5_recover_14 ?_
    refine lv_bipush (v := nI 114) hx hb dX5_recover_17 (by decide) ?_
    refine n_icmp_ne (tgt := 30) hx hb (Nat.lt_of_le_of_lt b5_z (by decide)) (by decide) dX5_recover_19 (by decide) (fun c6_z => ?_) (fun c6_z => ?_)
    · refine lv_iconst (v := nI 2) hx hb dX5_recover_30 (by decide) ?_
      refine lv_goto (tgt := 52) hx hb dX5_recover_31 (by decide) ?_
      refine r_put M hW hS 20 0 (lvM _) rfl rfl i_X5 tyX5 tyX5_ok nmX5 20 (by decide) k_72 (fun _ h9 => h9) rfl (ty := .int) (by decide +kernel) rfl rfl (Nat.le_of_ble_eq_true rfl) rfl rfl (Or.inr (show 2 ≤ 3 by decide)) dX5_recover_52 (fun H locs hW hS => ?_)
      obtain ⟨g7_z, eg7_z⟩ : ∃ z, z = up g 20 0 20 2 := ⟨_, rfl⟩
      rw [← eg7_z] at hW
      have hf : Fr g g7_z := by rw [eg7_z]; exact hf.up rfl
      refine lv_aload_n hx hb dX5_recover_55 rfl (lv_at hl 0 rfl) ?_
      have b8_z : g7_z 20 0 20 ≤ 3 := hW.2.2.1.le 20 0 20 2 rfl
      refine r_get M hW 20 0 (lvM _) (v := .int (nI (g7_z 20 0 20))) rfl rfl i_X5 20 (by decide) k_72 (fun _ h9 => h9) rfl dX5_recover_56 ?_
      have q9_z : g7_z 20 0 20 = 2 := by rw [eg7_z]; first | rfl | simp [up_at]
      refine W.eq (g2 := F0 mP 59 ls (.int (nI (2)) :: [])) (congrArg (fun z => F0 mP 59 ls (.int (nI z) :: [])) q9_z) ?_
      refine n_if_le (tgt := 64) hx hb (by decide) dX5_recover_59 (by decide) (fun h9 => absurd h9 (by decide)) (fun _ => ?_)
      refine lv_iconst (v := nI 0) hx hb dX5_recover_62 (by decide) ?_
      -- path 1
      exact W.iret (v := nI (0)) hx hb hr (fun t ht hW9 => ⟨⟨nI (0), g7_z, rfl, ⟨hf, (by subst eg7_z; exact Or.inr (Or.inl ⟨i, hi, rfl, Or.inl c6_z, rfl, rfl⟩))⟩, (show Wd D Z N0 g7_z ad t.heap by rw [ht]; exact hW)⟩, hS.F ht⟩) hS.2.2 dX5_recover_63
    · refine lv_aload_n hx hb dX5_recover_22 rfl (lv_at hl 0 rfl) ?_
      refine lv_iload_n hx hb dX5_recover_23 rfl (lv_at hl 1 rfl) ?_
      refine k_ci (k_rV (As := [.int (nI (i))]) (rest := [.ref (ad 20 0)]) M hW hS (c_X5_isOpen l D Z N0 g ad i (by omega)) (cwV 1 hts gX5_recover_X5_isOpen rfl rfl rfl (by decide +kernel) ⟨Nat.le_of_ble_eq_true rfl, Nat.le_of_ble_eq_true rfl⟩) (r_recv M.2 hW 20 0 (lvM _) rfl rfl) rfl hl.1 rfl (Nat.le_of_ble_eq_true rfl) dX5_recover_24 ⟨Nat.le_of_ble_eq_true rfl, Nat.le_of_ble_eq_true rfl⟩) hS (fun r12_z g11_z H locs hp hW hS => ?_)
      obtain ⟨hf1, hp⟩ := hp
      have hf : Fr g g11_z := hf.trans hf1
      obtain ⟨hp, hg⟩ := hp
      subst hg
      rcases hp with ⟨rfl, c13_z⟩ | ⟨rfl, c13_z⟩
      · refine n_if_eq (tgt := 34) hx hb (by decide) dX5_recover_27 (by decide) (fun h9 => absurd h9 (by decide)) (fun _ => ?_)
        refine lv_iconst (v := nI 2) hx hb dX5_recover_30 (by decide) ?_
        refine lv_goto (tgt := 52) hx hb dX5_recover_31 (by decide) ?_
        refine r_put M hW hS 20 0 (lvM _) rfl rfl i_X5 tyX5 tyX5_ok nmX5 20 (by decide) k_72 (fun _ h9 => h9) rfl (ty := .int) (by decide +kernel) rfl rfl (Nat.le_of_ble_eq_true rfl) rfl rfl (Or.inr (show 2 ≤ 3 by decide)) dX5_recover_52 (fun H locs hW hS => ?_)
        obtain ⟨g15_z, eg15_z⟩ : ∃ z, z = up g 20 0 20 2 := ⟨_, rfl⟩
        rw [← eg15_z] at hW
        have hf : Fr g g15_z := by rw [eg15_z]; exact hf.up rfl
        refine lv_aload_n hx hb dX5_recover_55 rfl (lv_at hl 0 rfl) ?_
        have b16_z : g15_z 20 0 20 ≤ 3 := hW.2.2.1.le 20 0 20 2 rfl
        refine r_get M hW 20 0 (lvM _) (v := .int (nI (g15_z 20 0 20))) rfl rfl i_X5 20 (by decide) k_72 (fun _ h9 => h9) rfl dX5_recover_56 ?_
        have q17_z : g15_z 20 0 20 = 2 := by rw [eg15_z]; first | rfl | simp [up_at]
        refine W.eq (g2 := F0 mP 59 ls (.int (nI (2)) :: [])) (congrArg (fun z => F0 mP 59 ls (.int (nI z) :: [])) q17_z) ?_
        refine n_if_le (tgt := 64) hx hb (by decide) dX5_recover_59 (by decide) (fun h9 => absurd h9 (by decide)) (fun _ => ?_)
        refine lv_iconst (v := nI 0) hx hb dX5_recover_62 (by decide) ?_
        -- path 2
        exact W.iret (v := nI (0)) hx hb hr (fun t ht hW9 => ⟨⟨nI (0), g15_z, rfl, ⟨hf, (by subst eg15_z; exact Or.inr (Or.inl ⟨i, hi, rfl, Or.inr c13_z, rfl, rfl⟩))⟩, (show Wd D Z N0 g15_z ad t.heap by rw [ht]; exact hW)⟩, hS.F ht⟩) hS.2.2 dX5_recover_63
      · refine n_if_eq (tgt := 34) hx hb (by decide) dX5_recover_27 (by decide) (fun _ => ?_) (fun h9 => absurd h9 (by decide))
        refine lv_aload_n hx hb dX5_recover_34 rfl (lv_at hl 0 rfl) ?_
        refine k_ci (k_rV (As := []) (rest := [.ref (ad 20 0)]) M hW hS (c_X5_agreeing l D Z N0 g ad) (cwV 0 hts gX5_recover_X5_agreeing rfl rfl rfl (by decide +kernel) ⟨Nat.le_of_ble_eq_true rfl, Nat.le_of_ble_eq_true rfl⟩) (r_recv M.2 hW 20 0 (lvM _) rfl rfl) rfl hl.1 rfl (Nat.le_of_ble_eq_true rfl) dX5_recover_35 ⟨Nat.le_of_ble_eq_true rfl, Nat.le_of_ble_eq_true rfl⟩) hS (fun r21_z g20_z H locs hp hW hS => ?_)
        obtain ⟨hf1, hp⟩ := hp
        have hf : Fr g g20_z := hf.trans hf1
        obtain ⟨rfl, hg⟩ := hp
        subst hg
        refine lv_aload_n hx hb dX5_recover_38 rfl (lv_at hl 0 rfl) ?_
        refine r_get M hW 20 0 (lvM _) (v := .ref (ad 38 0)) rfl rfl i_X5 17 (by decide) k_62 (fun _ h9 => h9) rfl dX5_recover_39 ?_
        refine lv_iload_n hx hb dX5_recover_42 rfl (lv_at hl 1 rfl) ?_
        refine r_iald M hW 38 0 ⟨rfl, by decide, by decide⟩ (n := 8) rfl (by omega) (by decide) dX5_recover_43 ?_
        have b22_z : g 38 0 i ≤ 5 := hW.2.2.1.le 38 0 i 4 rfl
        refine n_icmp_ge (tgt := 51) hx hb (Nat.lt_of_le_of_lt (mAg_le g) (by decide)) (Nat.lt_of_le_of_lt b22_z (by decide)) dX5_recover_44 (by decide) (fun c23_z => ?_) (fun c23_z => ?_)
        · refine lv_iconst (v := nI 0) hx hb dX5_recover_51 (by decide) ?_
          refine r_put M hW hS 20 0 (lvM _) rfl rfl i_X5 tyX5 tyX5_ok nmX5 20 (by decide) k_72 (fun _ h9 => h9) rfl (ty := .int) (by decide +kernel) rfl rfl (Nat.le_of_ble_eq_true rfl) rfl rfl (Or.inr (show 0 ≤ 3 by decide)) dX5_recover_52 (fun H locs hW hS => ?_)
          obtain ⟨g24_z, eg24_z⟩ : ∃ z, z = up g 20 0 20 0 := ⟨_, rfl⟩
          rw [← eg24_z] at hW
          have hf : Fr g g24_z := by rw [eg24_z]; exact hf.up rfl
          refine lv_aload_n hx hb dX5_recover_55 rfl (lv_at hl 0 rfl) ?_
          have b25_z : g24_z 20 0 20 ≤ 3 := hW.2.2.1.le 20 0 20 2 rfl
          refine r_get M hW 20 0 (lvM _) (v := .int (nI (g24_z 20 0 20))) rfl rfl i_X5 20 (by decide) k_72 (fun _ h9 => h9) rfl dX5_recover_56 ?_
          have q26_z : g24_z 20 0 20 = 0 := by rw [eg24_z]; first | rfl | simp [up_at]
          refine W.eq (g2 := F0 mP 59 ls (.int (nI (0)) :: [])) (congrArg (fun z => F0 mP 59 ls (.int (nI z) :: [])) q26_z) ?_
          refine n_if_le (tgt := 64) hx hb (by decide) dX5_recover_59 (by decide) (fun _ => ?_) (fun h9 => absurd h9 (by decide))
          refine lv_aload_n hx hb dX5_recover_64 rfl (lv_at hl 0 rfl) ?_
          refine k_ci (k_rV (As := []) (rest := []) M hW hS (c_X5_agreeing l D Z N0 g24_z ad) (cwV 0 hts gX5_recover_X5_agreeing rfl rfl rfl (by decide +kernel) ⟨Nat.le_of_ble_eq_true rfl, Nat.le_of_ble_eq_true rfl⟩) (r_recv M.2 hW 20 0 (lvM _) rfl rfl) rfl hl.1 rfl (Nat.le_of_ble_eq_true rfl) dX5_recover_65 ⟨Nat.le_of_ble_eq_true rfl, Nat.le_of_ble_eq_true rfl⟩) hS (fun r29_z g28_z H locs hp hW hS => ?_)
          obtain ⟨hf1, hp⟩ := hp
          have hf : Fr g g28_z := hf.trans hf1
          obtain ⟨rfl, hg⟩ := hp
          subst hg
          refine lv_istore_n (lv' := [(2, .int (nI (mAg g24_z))), (0, .ref (ad 20 0)), (1, .int (nI (i)))]) hx hb dX5_recover_68 rfl hl (by decide) rfl (fun ls hl => ?_)
          have hr9 : mAg g24_z = mAg (up g 20 0 20 0) := by rw [eg24_z]
          refine lv_aload_n hx hb dX5_recover_69 rfl (lv_at hl 1 rfl) ?_
          refine lv_iload_n hx hb dX5_recover_70 rfl (lv_at hl 2 rfl) ?_
          refine lv_iconst (v := nI 0) hx hb dX5_recover_71 (by decide) ?_
          refine k_cv (k_rV (As := [.int (nI (i)), .int (nI (0))]) (rest := []) M hW hS (c_X5_seals l D Z N0 g24_z ad i 0 (by omega) (show 0 ≤ 1 by decide)) (cwV 2 hts gX5_recover_X5_seals rfl rfl rfl (by decide +kernel) ⟨Nat.le_of_ble_eq_true rfl, Nat.le_of_ble_eq_true rfl⟩) (r_recv M.2 hW 20 0 (lvM _) rfl rfl) rfl hl.1 rfl (Nat.le_of_ble_eq_true rfl) dX5_recover_72 ⟨Nat.le_of_ble_eq_true rfl, Nat.le_of_ble_eq_true rfl⟩) hS (fun g30_z H locs hp hW hS => ?_)
          obtain ⟨hf1, hp⟩ := hp
          have hf : Fr g g30_z := hf.trans hf1
          have eg30_z : g30_z = mSe g24_z i 0 3 := hp
          refine lv_iconst (v := nI 0) hx hb dX5_recover_75 (by decide) ?_
          refine lv_istore_n (lv' := [(3, .int (nI (0))), (2, .int (nI (mAg g24_z))), (0, .ref (ad 20 0)), (1, .int (nI (i)))]) hx hb dX5_recover_76 rfl hl (by decide) rfl (fun ls hl => ?_)
          refine k_loop (D := D) (Z := Z) (N0 := N0) (ad := ad) (g0 := g30_z) (σ := Unit) (a0 := ()) (5) 4 (0) (fun k gk a => Fr g gk ∧ (gk = mFa (mSe (up g 20 0 20 0) i 0 3) k)) (fun k a => [(3, .int (nI (k))), (2, .int (nI (mAg g24_z))), (0, .ref (ad 20 0)), (1, .int (nI (i)))]) (by decide) ⟨hf, (by rw [eg30_z, eg24_z]; rfl)⟩ hW hS (lv_sub hl [0, 1, 2, 3] rfl) (fun n k gk a H locs ls hkn hI hW hS hl ih => ?_)
          obtain ⟨hf, hI⟩ := hI
          refine lv_iload_n hx hb dX5_recover_77 rfl (lv_at hl 0 rfl) ?_
          refine lv_iconst (v := nI 5) hx hb dX5_recover_78 (by decide) ?_
          refine n_icmp_ge (tgt := 95) hx hb (by omega) (by decide) dX5_recover_79 (by decide) (fun c32_z => ?_) (fun c32_z => ?_)
          · refine lv_iload_n hx hb dX5_recover_95 rfl (lv_at hl 1 rfl) ?_
            -- path 3
            exact W.iret (v := nI (mAg g24_z)) hx hb hr (fun t ht hW9 => ⟨⟨nI (mAg g24_z), gk, rfl, ⟨hf, Or.inr (Or.inr (Or.inr ⟨i, hi, rfl, c6_z, c13_z, by omega, by rw [hr9]; rfl, by rw [hI, show k = 5 by omega]⟩))⟩, (show Wd D Z N0 gk ad t.heap by rw [ht]; exact hW)⟩, hS.F ht⟩) hS.2.2 dX5_recover_96
          · refine lv_aload_n hx hb dX5_recover_82 rfl (lv_at hl 2 rfl) ?_
            refine r_get M hW 20 0 (lvM _) (v := .ref (ad 23 0)) rfl rfl i_X5 2 (by decide) k_16 (fun _ h9 => h9) rfl dX5_recover_83 ?_
            refine lv_iload_n hx hb dX5_recover_86 rfl (lv_at hl 0 rfl) ?_
            refine lv_iconst (v := nI 0) hx hb dX5_recover_87 (by decide) ?_
            refine r_zst M hW hS 23 0 ⟨rfl, by decide, by decide⟩ (n := 5) (fun _ => rfl) (by omega) (by decide) rfl (show 0 ≤ 1 by decide) (Or.inr (show 0 ≤ 1 by decide)) dX5_recover_88 (fun H locs hW hS => ?_)
            obtain ⟨g33_z, eg33_z⟩ : ∃ z, z = up gk 23 0 k 0 := ⟨_, rfl⟩
            rw [← eg33_z] at hW
            have hf : Fr g g33_z := by rw [eg33_z]; exact hf.up rfl
            refine lv_iinc (v := nI (k + 1)) (lv' := [(3, .int (nI (k + 1))), (2, .int (nI (mAg g24_z))), (0, .ref (ad 20 0)), (1, .int (nI (i)))]) hx hb dX5_recover_89 hl (k := 0) rfl (nI_add _ _) (by decide) rfl (fun ls hl => ?_)
            refine lv_goto (tgt := 77) hx hb dX5_recover_92 (by decide) ?_
            exact ih (by omega) g33_z (()) _ _ _ ⟨hf, (by rw [eg33_z, hI]; try rfl)⟩ hW hS (lv_sub hl [0, 1, 2, 3] rfl)
        · refine lv_iconst (v := nI 3) hx hb dX5_recover_47 (by decide) ?_
          refine lv_goto (tgt := 52) hx hb dX5_recover_48 (by decide) ?_
          refine r_put M hW hS 20 0 (lvM _) rfl rfl i_X5 tyX5 tyX5_ok nmX5 20 (by decide) k_72 (fun _ h9 => h9) rfl (ty := .int) (by decide +kernel) rfl rfl (Nat.le_of_ble_eq_true rfl) rfl rfl (Or.inr (show 3 ≤ 3 by decide)) dX5_recover_52 (fun H locs hW hS => ?_)
          obtain ⟨g34_z, eg34_z⟩ : ∃ z, z = up g 20 0 20 3 := ⟨_, rfl⟩
          rw [← eg34_z] at hW
          have hf : Fr g g34_z := by rw [eg34_z]; exact hf.up rfl
          refine lv_aload_n hx hb dX5_recover_55 rfl (lv_at hl 0 rfl) ?_
          have b35_z : g34_z 20 0 20 ≤ 3 := hW.2.2.1.le 20 0 20 2 rfl
          refine r_get M hW 20 0 (lvM _) (v := .int (nI (g34_z 20 0 20))) rfl rfl i_X5 20 (by decide) k_72 (fun _ h9 => h9) rfl dX5_recover_56 ?_
          have q36_z : g34_z 20 0 20 = 3 := by rw [eg34_z]; first | rfl | simp [up_at]
          refine W.eq (g2 := F0 mP 59 ls (.int (nI (3)) :: [])) (congrArg (fun z => F0 mP 59 ls (.int (nI z) :: [])) q36_z) ?_
          refine n_if_le (tgt := 64) hx hb (by decide) dX5_recover_59 (by decide) (fun h9 => absurd h9 (by decide)) (fun _ => ?_)
          refine lv_iconst (v := nI 0) hx hb dX5_recover_62 (by decide) ?_
          -- path 4
          exact W.iret (v := nI (0)) hx hb hr (fun t ht hW9 => ⟨⟨nI (0), g34_z, rfl, ⟨hf, (by subst eg34_z; exact Or.inr (Or.inr (Or.inl ⟨i, hi, rfl, c6_z, c13_z, by omega, rfl, rfl⟩)))⟩, (show Wd D Z N0 g34_z ad t.heap by rw [ht]; exact hW)⟩, hS.F ht⟩) hS.2.2 dX5_recover_63
  · refine n_if_ne (tgt := 13) hx hb (by decide) dX5_recover_6 (by decide) (fun h9 => absurd h9 (by decide)) (fun _ => ?_)
    refine lv_iconst (v := nI 1) hx hb dX5_recover_9 (by decide) ?_
    refine lv_goto (tgt := 52) hx hb dX5_recover_10 (by decide) ?_
    refine r_put M hW hS 20 0 (lvM _) rfl rfl i_X5 tyX5 tyX5_ok nmX5 20 (by decide) k_72 (fun _ h9 => h9) rfl (ty := .int) (by decide +kernel) rfl rfl (Nat.le_of_ble_eq_true rfl) rfl rfl (Or.inr (show 1 ≤ 3 by decide)) dX5_recover_52 (fun H locs hW hS => ?_)
    obtain ⟨g39_z, eg39_z⟩ : ∃ z, z = up g 20 0 20 1 := ⟨_, rfl⟩
    rw [← eg39_z] at hW
    have hf : Fr g g39_z := by rw [eg39_z]; exact hf.up rfl
    refine lv_aload_n hx hb dX5_recover_55 rfl (lv_at hl 0 rfl) ?_
    have b40_z : g39_z 20 0 20 ≤ 3 := hW.2.2.1.le 20 0 20 2 rfl
    refine r_get M hW 20 0 (lvM _) (v := .int (nI (g39_z 20 0 20))) rfl rfl i_X5 20 (by decide) k_72 (fun _ h9 => h9) rfl dX5_recover_56 ?_
    have q41_z : g39_z 20 0 20 = 1 := by rw [eg39_z]; first | rfl | simp [up_at]
    refine W.eq (g2 := F0 mP 59 ls (.int (nI (1)) :: [])) (congrArg (fun z => F0 mP 59 ls (.int (nI z) :: [])) q41_z) ?_
    refine n_if_le (tgt := 64) hx hb (by decide) dX5_recover_59 (by decide) (fun h9 => absurd h9 (by decide)) (fun _ => ?_)
    refine lv_iconst (v := nI 0) hx hb dX5_recover_62 (by decide) ?_
    -- path 5
    exact W.iret (v := nI (0)) hx hb hr (fun t ht hW9 => ⟨⟨nI (0), g39_z, rfl, ⟨hf, (by subst eg39_z; exact Or.inl ⟨c3_z, rfl, rfl⟩)⟩, (show Wd D Z N0 g39_z ad t.heap by rw [ht]; exact hW)⟩, hS.F ht⟩) hS.2.2 dX5_recover_63

set_option maxHeartbeats 4000000 in
set_option maxRecDepth 100000 in
theorem c_X5_openShare (l : Launch) (D : va_G) (Z : Nat → Nat) (N0 : Nat) (g : T3) (ad : T2) : Met l yX5_openShare wsX5_openShare ({ frames := 3, cells := 0, slots := 0, locals := 180 } : Room) (PC D Z N0 g ad [.ref (ad 20 0)]) (QF D Z N0 ad (fun (r : UInt32) (g1 : T3) => Fr g g1 ∧ ((g 20 0 22 = 0 ∧ g1 = up g 20 0 20 1) ∨ (¬ g 20 0 22 = 0 ∧ r = FP.fdiv (FP.i2f (nI (mOp g (g 20 0 22)))) (FP.i2f (nI (g 20 0 22))) ∧ g1 = up g 20 0 20 0)))) 0 0 (AA N0) := by
  refine Met.ofW (cc := cX5_openShare) (maxL := 3) (ret := (some .float)) (by decide) rfl ?_
  intro pP eP sP mP args below meth cP s₁ B hmlP hvP
  obtain ⟨rfl, hW, hC⟩ := hvP
  have hx := B.exec
  have hb := B.bytes
  have hr := B.returns
  have hts := atoms_spec (ws := wsX5_openShare) B.pre
  have hown : sP.vm.findClass RX5 = some mP.cls := findClass_of_methodNamed B.named
  have hlocks := B.notSynchronized
  have i_X5 : ∀ w ∈ wsX50, w ∈ wsX5_openShare := (fun _ h => List.mem_cons_of_mem _ (List.mem_append_left _ (List.mem_append_right _ h)))
  have k_79 : Cond.fieldLink RX5 79 "StartChainModel" "secrets" "I" ∈ wsX5_openShare := by decide +kernel
  have M : Mx pP mP cP cX5_openShare 3 sP ([.ref (ad 20 0)] : List Value).toArray wsX5_openShare RX5 D Z N0 := ⟨⟨hx, hb, hmlP, hown, hts⟩, hC⟩
  have hf : Fr g g := Fr.rf g
  have hS : va_S (AA N0) sP.heap sP.heap [] := va_S.rf
  have hl := lv_entry ([.ref (ad 20 0)]) (n := 3) (Nat.le_of_ble_eq_true rfl)
  rw [lg_entry_eq]
  generalize (lg_sl ([.ref (ad 20 0)]) ++ List.replicate (3 - (lg_sl ([.ref (ad 20 0)])).length) Slot.unset).toArray = ls at hl ⊢
  have hl : lv_has ls 3 [(0, .ref (ad 20 0))] := hl
  have hsc9 := hW.2.2.1.le 20 0 22 7 rfl
  refine lv_iconst (v := nI 0) hx hb dX5_openShare_0 (by decide) ?_
  refine lv_istore_n (lv' := [(1, .int (nI (0))), (0, .ref (ad 20 0))]) hx hb dX5_openShare_1 rfl hl (by decide) rfl (fun ls hl => ?_)
  refine lv_iconst (v := nI 0) hx hb dX5_openShare_2 (by decide) ?_
  refine lv_istore_n (lv' := [(2, .int (nI (0))), (1, .int (nI (0))), (0, .ref (ad 20 0))]) hx hb dX5_openShare_3 rfl hl (by decide) rfl (fun ls hl => ?_)
  refine k_loop (D := D) (Z := Z) (N0 := N0) (ad := ad) (g0 := g) (σ := Nat) (a0 := 0) (g 20 0 22) 3 (0) (fun k gk a => g = gk ∧ (a = mOp g k ∧ k ≤ g 20 0 22)) (fun k a => [(2, .int (nI (k))), (1, .int (nI (a))), (0, .ref (ad 20 0))]) (Nat.zero_le _) ⟨rfl, ⟨rfl, Nat.zero_le _⟩⟩ hW hS (lv_sub hl [0, 1, 2] rfl) (fun n k gk a H locs ls hkn hI hW hS hl ih => ?_)
  obtain ⟨hg, hI⟩ := hI
  subst hg
  obtain ⟨hI1, hI2⟩ := hI; have ha9 : a ≤ k := by rw [hI1]; exact mOp_le g k
  refine lv_iload_n hx hb dX5_openShare_4 rfl (lv_at hl 0 rfl) ?_
  refine lv_aload_n hx hb dX5_openShare_5 rfl (lv_at hl 2 rfl) ?_
  have b1_z : g 20 0 22 ≤ 8 := hW.2.2.1.le 20 0 22 7 rfl
  refine r_get M hW 20 0 (lvM _) (v := .int (nI (g 20 0 22))) rfl rfl i_X5 22 (by decide) k_79 (fun _ h9 => h9) rfl dX5_openShare_6 ?_
  refine n_icmp_ge (tgt := 34) hx hb (by omega) (Nat.lt_of_le_of_lt b1_z (by decide)) dX5_openShare_9 (by decide) (fun c2_z => ?_) (fun c2_z => ?_)
  · refine lv_aload_n hx hb dX5_openShare_34 rfl (lv_at hl 2 rfl) ?_
    refine lv_aload_n hx hb dX5_openShare_35 rfl (lv_at hl 2 rfl) ?_
    have b3_z : g 20 0 22 ≤ 8 := hW.2.2.1.le 20 0 22 7 rfl
    refine r_get M hW 20 0 (lvM _) (v := .int (nI (g 20 0 22))) rfl rfl i_X5 22 (by decide) k_79 (fun _ h9 => h9) rfl dX5_openShare_36 ?_
    refine n_if_le (tgt := 46) hx hb (Nat.lt_of_le_of_lt b3_z (by decide)) dX5_openShare_39 (by decide) (fun c4_z => ?_) (fun c4_z => ?_)
    · refine lv_iconst (v := nI 0) hx hb dX5_openShare_46 (by decide) ?_
      refine k_ci (k_rV (As := [.int (nI (0))]) (rest := []) M hW hS (c_X5_checked l D Z N0 g ad 0 (show 0 ≤ 1 by decide)) (cwV 1 hts gX5_openShare_X5_checked rfl rfl rfl (by decide +kernel) ⟨Nat.le_of_ble_eq_true rfl, Nat.le_of_ble_eq_true rfl⟩) (r_recv M.2 hW 20 0 (lvM _) rfl rfl) rfl hl.1 rfl (Nat.le_of_ble_eq_true rfl) dX5_openShare_47 ⟨Nat.le_of_ble_eq_true rfl, Nat.le_of_ble_eq_true rfl⟩) hS (fun r6_z g5_z H locs hp hW hS => ?_)
      obtain ⟨hf1, hp⟩ := hp
      have hf : Fr g g5_z := hf.trans hf1
      obtain ⟨hr9, eg5_z⟩ := hp
      have hr9 : r6_z = nI 1 := hr9
      subst hr9
      have eg5_z : g5_z = up g 20 0 20 1 := eg5_z
      refine n_if_le (tgt := 57) hx hb (by decide) dX5_openShare_50 (by decide) (fun h9 => absurd h9 (by decide)) (fun _ => ?_)
      refine lv_fconst0 hx hb dX5_openShare_53 ?_
      refine lv_goto (tgt := 65) hx hb dX5_openShare_54 (by decide) ?_
      -- path 1
      exact W.fret (v := FP.fconst0) hx hb hr (fun t ht hW9 => ⟨⟨FP.fconst0, g5_z, rfl, ⟨hf, (by subst eg5_z; exact Or.inl ⟨by omega, rfl⟩)⟩, (show Wd D Z N0 g5_z ad t.heap by rw [ht]; exact hW)⟩, hS.F ht⟩) hS.2.2 dX5_openShare_65
    · refine lv_iconst (v := nI 1) hx hb dX5_openShare_42 (by decide) ?_
      refine lv_goto (tgt := 47) hx hb dX5_openShare_43 (by decide) ?_
      refine k_ci (k_rV (As := [.int (nI (1))]) (rest := []) M hW hS (c_X5_checked l D Z N0 g ad 1 (show 1 ≤ 1 by decide)) (cwV 1 hts gX5_openShare_X5_checked rfl rfl rfl (by decide +kernel) ⟨Nat.le_of_ble_eq_true rfl, Nat.le_of_ble_eq_true rfl⟩) (r_recv M.2 hW 20 0 (lvM _) rfl rfl) rfl hl.1 rfl (Nat.le_of_ble_eq_true rfl) dX5_openShare_47 ⟨Nat.le_of_ble_eq_true rfl, Nat.le_of_ble_eq_true rfl⟩) hS (fun r9_z g8_z H locs hp hW hS => ?_)
      obtain ⟨hf1, hp⟩ := hp
      have hf : Fr g g8_z := hf.trans hf1
      obtain ⟨hr9, eg8_z⟩ := hp
      have hr9 : r9_z = nI 0 := hr9
      subst hr9
      have eg8_z : g8_z = up g 20 0 20 0 := eg8_z
      refine n_if_le (tgt := 57) hx hb (by decide) dX5_openShare_50 (by decide) (fun _ => ?_) (fun h9 => absurd h9 (by decide))
      refine lv_iload_n hx hb dX5_openShare_57 rfl (lv_at hl 1 rfl) ?_
      refine lv_i2f hx hb dX5_openShare_58 ?_
      refine lv_aload_n hx hb dX5_openShare_59 rfl (lv_at hl 2 rfl) ?_
      have q11_z : g8_z 20 0 22 = g 20 0 22 := by rw [eg8_z]; first | rfl | simp [up_at]
      have b12_z : g8_z 20 0 22 ≤ 8 := hW.2.2.1.le 20 0 22 7 rfl
      refine r_get M hW 20 0 (lvM _) (v := .int (nI (g8_z 20 0 22))) rfl rfl i_X5 22 (by decide) k_79 (fun _ h9 => h9) rfl dX5_openShare_60 ?_
      refine lv_i2f hx hb dX5_openShare_63 ?_
      refine lv_fdiv hx hb dX5_openShare_64 (ne_f _ (by omega) _ (by omega) (by omega)) ?_
      -- path 2
      exact W.fret (v := FP.fdiv (FP.i2f (nI (a))) (FP.i2f (nI (g8_z 20 0 22)))) hx hb hr (fun t ht hW9 => ⟨⟨FP.fdiv (FP.i2f (nI (a))) (FP.i2f (nI (g8_z 20 0 22))), g8_z, rfl, ⟨hf, (by subst eg8_z; exact Or.inr ⟨by omega, by rw [hI1, show k = g 20 0 22 by omega]; rfl, rfl⟩)⟩, (show Wd D Z N0 g8_z ad t.heap by rw [ht]; exact hW)⟩, hS.F ht⟩) hS.2.2 dX5_openShare_65
  · refine lv_iload_n hx hb dX5_openShare_12 rfl (lv_at hl 1 rfl) ?_
    refine lv_aload_n hx hb dX5_openShare_13 rfl (lv_at hl 2 rfl) ?_
    refine lv_iload_n hx hb dX5_openShare_14 rfl (lv_at hl 0 rfl) ?_
    refine k_ci (k_rV (As := [.int (nI (k))]) (rest := [.int (nI (a))]) M hW hS (c_X5_isOpen l D Z N0 g ad k (by omega)) (cwV 1 hts gX5_openShare_X5_isOpen rfl rfl rfl (by decide +kernel) ⟨Nat.le_of_ble_eq_true rfl, Nat.le_of_ble_eq_true rfl⟩) (r_recv M.2 hW 20 0 (lvM _) rfl rfl) rfl hl.1 rfl (Nat.le_of_ble_eq_true rfl) dX5_openShare_15 ⟨Nat.le_of_ble_eq_true rfl, Nat.le_of_ble_eq_true rfl⟩) hS (fun r14_z g13_z H locs hp hW hS => ?_)
    obtain ⟨hf1, hp⟩ := hp
    have hf : Fr g g13_z := hf.trans hf1
    obtain ⟨hp, hg⟩ := hp
    subst hg
    rcases hp with ⟨rfl, c15_z⟩ | ⟨rfl, c15_z⟩
    · refine n_if_eq (tgt := 25) hx hb (by decide) dX5_openShare_18 (by decide) (fun h9 => absurd h9 (by decide)) (fun _ => ?_)
      refine lv_iconst (v := nI 1) hx hb dX5_openShare_21 (by decide) ?_
      refine lv_goto (tgt := 26) hx hb dX5_openShare_22 (by decide) ?_
      refine n_iadd hx hb dX5_openShare_26 ?_
      refine lv_istore_n (lv' := [(1, .int (nI (a + 1))), (2, .int (nI (k))), (0, .ref (ad 20 0))]) hx hb dX5_openShare_27 rfl hl (by decide) rfl (fun ls hl => ?_)
      refine lv_iinc (v := nI (k + 1)) (lv' := [(2, .int (nI (k + 1))), (1, .int (nI (a + 1))), (0, .ref (ad 20 0))]) hx hb dX5_openShare_28 hl (k := 1) rfl (nI_add _ _) (by decide) rfl (fun ls hl => ?_)
      refine lv_goto (tgt := 4) hx hb dX5_openShare_31 (by decide) ?_
      exact ih (by omega) g (a + 1) _ _ _ ⟨rfl, ⟨by rw [mOp_s g k (b := 1) (Or.inl ⟨rfl, c15_z⟩), ← hI1]; try rfl, by omega⟩⟩ hW hS (lv_sub hl [0, 1, 2] rfl)
    · refine n_if_eq (tgt := 25) hx hb (by decide) dX5_openShare_18 (by decide) (fun _ => ?_) (fun h9 => absurd h9 (by decide))
      refine lv_iconst (v := nI 0) hx hb dX5_openShare_25 (by decide) ?_
      refine n_iadd hx hb dX5_openShare_26 ?_
      refine lv_istore_n (lv' := [(1, .int (nI (a + 0))), (2, .int (nI (k))), (0, .ref (ad 20 0))]) hx hb dX5_openShare_27 rfl hl (by decide) rfl (fun ls hl => ?_)
      refine lv_iinc (v := nI (k + 1)) (lv' := [(2, .int (nI (k + 1))), (1, .int (nI (a + 0))), (0, .ref (ad 20 0))]) hx hb dX5_openShare_28 hl (k := 1) rfl (nI_add _ _) (by decide) rfl (fun ls hl => ?_)
      refine lv_goto (tgt := 4) hx hb dX5_openShare_31 (by decide) ?_
      exact ih (by omega) g (a + 0) _ _ _ ⟨rfl, ⟨by rw [mOp_s g k (b := 0) (Or.inr ⟨rfl, c15_z⟩), ← hI1]; try rfl, by omega⟩⟩ hW hS (lv_sub hl [0, 1, 2] rfl)

set_option maxHeartbeats 4000000 in
set_option maxRecDepth 100000 in
theorem c_X5_meanVersion (l : Launch) (D : va_G) (Z : Nat → Nat) (N0 : Nat) (g : T3) (ad : T2) : Met l yX5_meanVersion wsX5_meanVersion ({ frames := 3, cells := 0, slots := 0, locals := 180 } : Room) (PC D Z N0 g ad [.ref (ad 20 0)]) (QD D Z N0 ad (fun (r : UInt64) (g1 : T3) => Fr g g1 ∧ ((g 20 0 24 = 0 ∧ g1 = up g 20 0 20 1) ∨ (¬ g 20 0 24 = 0 ∧ r = FP.ddiv (FP.i2d (nI (mVe g (g 20 0 24)))) (FP.i2d (nI (g 20 0 24))) ∧ g1 = up g 20 0 20 0)))) 0 0 (AA N0) := by
  refine Met.ofW (cc := cX5_meanVersion) (maxL := 3) (ret := (some .double)) (by decide) rfl ?_
  intro pP eP sP mP args below meth cP s₁ B hmlP hvP
  obtain ⟨rfl, hW, hC⟩ := hvP
  have hx := B.exec
  have hb := B.bytes
  have hr := B.returns
  have hts := atoms_spec (ws := wsX5_meanVersion) B.pre
  have hown : sP.vm.findClass RX5 = some mP.cls := findClass_of_methodNamed B.named
  have hlocks := B.notSynchronized
  have i_X5 : ∀ w ∈ wsX50, w ∈ wsX5_meanVersion := (fun _ h => List.mem_cons_of_mem _ (List.mem_append_left _ (List.mem_append_right _ h)))
  have k_85 : Cond.fieldLink RX5 85 "StartChainModel" "running" "I" ∈ wsX5_meanVersion := by decide +kernel
  have k_41 : Cond.fieldLink RX5 41 "StartChainModel" "ranVersions" "[I" ∈ wsX5_meanVersion := by decide +kernel
  have M : Mx pP mP cP cX5_meanVersion 3 sP ([.ref (ad 20 0)] : List Value).toArray wsX5_meanVersion RX5 D Z N0 := ⟨⟨hx, hb, hmlP, hown, hts⟩, hC⟩
  have hf : Fr g g := Fr.rf g
  have hS : va_S (AA N0) sP.heap sP.heap [] := va_S.rf
  have hl := lv_entry ([.ref (ad 20 0)]) (n := 3) (Nat.le_of_ble_eq_true rfl)
  rw [lg_entry_eq]
  generalize (lg_sl ([.ref (ad 20 0)]) ++ List.replicate (3 - (lg_sl ([.ref (ad 20 0)])).length) Slot.unset).toArray = ls at hl ⊢
  have hl : lv_has ls 3 [(0, .ref (ad 20 0))] := hl
  refine lv_iconst (v := nI 0) hx hb dX5_meanVersion_0 (by decide) ?_
  refine lv_istore_n (lv' := [(1, .int (nI (0))), (0, .ref (ad 20 0))]) hx hb dX5_meanVersion_1 rfl hl (by decide) rfl (fun ls hl => ?_)
  refine lv_iconst (v := nI 0) hx hb dX5_meanVersion_2 (by decide) ?_
  refine lv_istore_n (lv' := [(2, .int (nI (0))), (1, .int (nI (0))), (0, .ref (ad 20 0))]) hx hb dX5_meanVersion_3 rfl hl (by decide) rfl (fun ls hl => ?_)
  refine k_loop (D := D) (Z := Z) (N0 := N0) (ad := ad) (g0 := g) (σ := Nat) (a0 := 0) (g 20 0 24) 3 (0) (fun k gk a => g = gk ∧ (a = mVe g k ∧ k ≤ g 20 0 24)) (fun k a => [(2, .int (nI (k))), (1, .int (nI (a))), (0, .ref (ad 20 0))]) (Nat.zero_le _) ⟨rfl, ⟨rfl, Nat.zero_le _⟩⟩ hW hS (lv_sub hl [0, 1, 2] rfl) (fun n k gk a H locs ls hkn hI hW hS hl ih => ?_)
  obtain ⟨hg, hI⟩ := hI
  subst hg
  obtain ⟨hI1, hI2⟩ := hI; have ha9 : a ≤ k * 99 := by rw [hI1]; exact mVe_le (fun q => hW.2.2.1.le 31 0 q 98 rfl) k
  refine lv_iload_n hx hb dX5_meanVersion_4 rfl (lv_at hl 0 rfl) ?_
  refine lv_aload_n hx hb dX5_meanVersion_5 rfl (lv_at hl 2 rfl) ?_
  have b1_z : g 20 0 24 ≤ 6 := hW.2.2.1.le 20 0 24 5 rfl
  refine r_get M hW 20 0 (lvM _) (v := .int (nI (g 20 0 24))) rfl rfl i_X5 24 (by decide) k_85 (fun _ h9 => h9) rfl dX5_meanVersion_6 ?_
  refine n_icmp_ge (tgt := 27) hx hb (by omega) (Nat.lt_of_le_of_lt b1_z (by decide)) dX5_meanVersion_9 (by decide) (fun c2_z => ?_) (fun c2_z => ?_)
  · refine lv_aload_n hx hb dX5_meanVersion_27 rfl (lv_at hl 2 rfl) ?_
    refine lv_aload_n hx hb dX5_meanVersion_28 rfl (lv_at hl 2 rfl) ?_
    have b3_z : g 20 0 24 ≤ 6 := hW.2.2.1.le 20 0 24 5 rfl
    refine r_get M hW 20 0 (lvM _) (v := .int (nI (g 20 0 24))) rfl rfl i_X5 24 (by decide) k_85 (fun _ h9 => h9) rfl dX5_meanVersion_29 ?_
    refine n_if_le (tgt := 39) hx hb (Nat.lt_of_le_of_lt b3_z (by decide)) dX5_meanVersion_32 (by decide) (fun c4_z => ?_) (fun c4_z => ?_)
    · refine lv_iconst (v := nI 0) hx hb dX5_meanVersion_39 (by decide) ?_
      refine k_ci (k_rV (As := [.int (nI (0))]) (rest := []) M hW hS (c_X5_checked l D Z N0 g ad 0 (show 0 ≤ 1 by decide)) (cwV 1 hts gX5_meanVersion_X5_checked rfl rfl rfl (by decide +kernel) ⟨Nat.le_of_ble_eq_true rfl, Nat.le_of_ble_eq_true rfl⟩) (r_recv M.2 hW 20 0 (lvM _) rfl rfl) rfl hl.1 rfl (Nat.le_of_ble_eq_true rfl) dX5_meanVersion_40 ⟨Nat.le_of_ble_eq_true rfl, Nat.le_of_ble_eq_true rfl⟩) hS (fun r6_z g5_z H locs hp hW hS => ?_)
      obtain ⟨hf1, hp⟩ := hp
      have hf : Fr g g5_z := hf.trans hf1
      obtain ⟨hr9, eg5_z⟩ := hp
      have hr9 : r6_z = nI 1 := hr9
      subst hr9
      have eg5_z : g5_z = up g 20 0 20 1 := eg5_z
      refine n_if_le (tgt := 50) hx hb (by decide) dX5_meanVersion_43 (by decide) (fun h9 => absurd h9 (by decide)) (fun _ => ?_)
      refine lv_dconst0 hx hb dX5_meanVersion_46 ?_
      refine lv_goto (tgt := 58) hx hb dX5_meanVersion_47 (by decide) ?_
      -- path 1
      exact W.dret (v := FP.dconst0) hx hb hr (fun t ht hW9 => ⟨⟨FP.dconst0, g5_z, rfl, ⟨hf, (by subst eg5_z; exact Or.inl ⟨by omega, rfl⟩)⟩, (show Wd D Z N0 g5_z ad t.heap by rw [ht]; exact hW)⟩, hS.F ht⟩) hS.2.2 dX5_meanVersion_58
    · refine lv_iconst (v := nI 1) hx hb dX5_meanVersion_35 (by decide) ?_
      refine lv_goto (tgt := 40) hx hb dX5_meanVersion_36 (by decide) ?_
      refine k_ci (k_rV (As := [.int (nI (1))]) (rest := []) M hW hS (c_X5_checked l D Z N0 g ad 1 (show 1 ≤ 1 by decide)) (cwV 1 hts gX5_meanVersion_X5_checked rfl rfl rfl (by decide +kernel) ⟨Nat.le_of_ble_eq_true rfl, Nat.le_of_ble_eq_true rfl⟩) (r_recv M.2 hW 20 0 (lvM _) rfl rfl) rfl hl.1 rfl (Nat.le_of_ble_eq_true rfl) dX5_meanVersion_40 ⟨Nat.le_of_ble_eq_true rfl, Nat.le_of_ble_eq_true rfl⟩) hS (fun r9_z g8_z H locs hp hW hS => ?_)
      obtain ⟨hf1, hp⟩ := hp
      have hf : Fr g g8_z := hf.trans hf1
      obtain ⟨hr9, eg8_z⟩ := hp
      have hr9 : r9_z = nI 0 := hr9
      subst hr9
      have eg8_z : g8_z = up g 20 0 20 0 := eg8_z
      refine n_if_le (tgt := 50) hx hb (by decide) dX5_meanVersion_43 (by decide) (fun _ => ?_) (fun h9 => absurd h9 (by decide))
      refine lv_iload_n hx hb dX5_meanVersion_50 rfl (lv_at hl 1 rfl) ?_
      refine lv_i2d hx hb dX5_meanVersion_51 ?_
      refine lv_aload_n hx hb dX5_meanVersion_52 rfl (lv_at hl 2 rfl) ?_
      have q11_z : g8_z 20 0 24 = g 20 0 24 := by rw [eg8_z]; first | rfl | simp [up_at]
      have b12_z : g8_z 20 0 24 ≤ 6 := hW.2.2.1.le 20 0 24 5 rfl
      refine r_get M hW 20 0 (lvM _) (v := .int (nI (g8_z 20 0 24))) rfl rfl i_X5 24 (by decide) k_85 (fun _ h9 => h9) rfl dX5_meanVersion_53 ?_
      refine lv_i2d hx hb dX5_meanVersion_56 ?_
      refine lv_ddiv hx hb dX5_meanVersion_57 (ne_d _ (by omega) (by omega) _ (by omega)) ?_
      -- path 2
      exact W.dret (v := FP.ddiv (FP.i2d (nI (a))) (FP.i2d (nI (g8_z 20 0 24)))) hx hb hr (fun t ht hW9 => ⟨⟨FP.ddiv (FP.i2d (nI (a))) (FP.i2d (nI (g8_z 20 0 24))), g8_z, rfl, ⟨hf, (by subst eg8_z; exact Or.inr ⟨by omega, by rw [hI1, show k = g 20 0 24 by omega]; rfl, rfl⟩)⟩, (show Wd D Z N0 g8_z ad t.heap by rw [ht]; exact hW)⟩, hS.F ht⟩) hS.2.2 dX5_meanVersion_58
  · refine lv_iload_n hx hb dX5_meanVersion_12 rfl (lv_at hl 1 rfl) ?_
    refine lv_aload_n hx hb dX5_meanVersion_13 rfl (lv_at hl 2 rfl) ?_
    refine r_get M hW 20 0 (lvM _) (v := .ref (ad 31 0)) rfl rfl i_X5 10 (by decide) k_41 (fun _ h9 => h9) rfl dX5_meanVersion_14 ?_
    refine lv_iload_n hx hb dX5_meanVersion_17 rfl (lv_at hl 0 rfl) ?_
    refine r_iald M hW 31 0 ⟨rfl, by decide, by decide⟩ (n := 6) rfl (by omega) (by decide) dX5_meanVersion_18 ?_
    have b13_z : g 31 0 k ≤ 99 := hW.2.2.1.le 31 0 k 98 rfl
    refine n_iadd hx hb dX5_meanVersion_19 ?_
    refine lv_istore_n (lv' := [(1, .int (nI (a + g 31 0 k))), (2, .int (nI (k))), (0, .ref (ad 20 0))]) hx hb dX5_meanVersion_20 rfl hl (by decide) rfl (fun ls hl => ?_)
    refine lv_iinc (v := nI (k + 1)) (lv' := [(2, .int (nI (k + 1))), (1, .int (nI (a + g 31 0 k))), (0, .ref (ad 20 0))]) hx hb dX5_meanVersion_21 hl (k := 1) rfl (nI_add _ _) (by decide) rfl (fun ls hl => ?_)
    refine lv_goto (tgt := 4) hx hb dX5_meanVersion_24 (by decide) ?_
    exact ih (by omega) g (a + g 31 0 k) _ _ _ ⟨rfl, ⟨by rw [hI1]; rfl, by omega⟩⟩ hW hS (lv_sub hl [0, 1, 2] rfl)
