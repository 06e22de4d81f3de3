/-! THE MODEL'S METHODS, third part: a start, and what hangs on it. -/
theorem mMe_fr {g : T3} {i s k r j : Nat} (h1 : k ≠ 35) (h2 : k ≠ 36) (h3 : ¬ (k = 20 ∧ j = 26)) : mMe g i s k r j = g k r j := by
  show up (up (up g 35 0 (g 20 0 26) _) 20 0 26 _) 36 0 (g 24 0 i) _ k r j = _
  rw [up_at, if_neg (fun h => h2 h.1), up_at, if_neg (fun h => h3 ⟨h.1, h.2.2⟩), up_at, if_neg (fun h => h1 h.1)]
theorem mMe_26 (g : T3) (i s : Nat) : mMe g i s 20 0 26 = g 20 0 26 + 1 := rfl
theorem mTr_fr {g : T3} {i s k r j : Nat} (h1 : k ≠ 35) (h2 : k ≠ 36) (h4 : k ≠ 34) (h3 : ¬ (k = 20 ∧ j = 26)) : (mTr g i s).2 k r j = g k r j := by
  unfold mTr
  split
  · exact mMe_fr h1 h2 h3
  · split
    · show up (mMe g i s) 34 0 i s k r j = _
      rw [up_at, if_neg (fun h => h4 h.1)]
      exact mMe_fr h1 h2 h3
    · rfl
theorem mTr_26 (g : T3) (i s : Nat) : (mTr g i s).2 20 0 26 ≤ g 20 0 26 + 1 := by
  unfold mTr
  split
  · exact Nat.le_of_eq (mMe_26 g i s)
  · split
    · exact Nat.le_of_eq (mMe_26 g i s)
    · exact Nat.le_succ _
def mSt (g : T3) (i : Nat) : Nat × T3 :=
  if (mTr g i (g 25 0 i)).1 = 0 then
    (if (mTr (mTr g i (g 25 0 i)).2 i (1 - g 25 0 i)).1 = 0 then (0, (mTr (mTr g i (g 25 0 i)).2 i (1 - g 25 0 i)).2)
     else (1, up (mTr (mTr g i (g 25 0 i)).2 i (1 - g 25 0 i)).2 20 0 28 ((mTr (mTr g i (g 25 0 i)).2 i (1 - g 25 0 i)).2 20 0 28 + 1)))
  else (1, (mTr g i (g 25 0 i)).2)
def mLp (g0 : T3) : Nat → Nat × T3
  | 0 => (1, g0)
  | k + 1 => if (mLp g0 k).1 = 0 then mLp g0 k else if (mSt (mLp g0 k).2 k).1 = 0 then (0, (mSt (mLp g0 k).2 k).2) else (1, up (mSt (mLp g0 k).2 k).2 20 0 27 (k + 1))
theorem mLp_a {g0 gk : T3} {k : Nat} (h : gk = (mLp g0 k).2) (h1 : (mLp g0 k).1 = 1) (c : ¬ (mTr gk k (gk 25 0 k)).1 = 0) : mLp g0 (k + 1) = (1, up (mTr gk k (gk 25 0 k)).2 20 0 27 (k + 1)) := by
  have hs : mSt gk k = (1, (mTr gk k (gk 25 0 k)).2) := if_neg c
  show (if (mLp g0 k).1 = 0 then _ else if (mSt (mLp g0 k).2 k).1 = 0 then _ else _) = _
  rw [if_neg (by rw [h1]; decide), ← h, hs]
  rfl
theorem mLp_b {g0 gk : T3} {k : Nat} (h : gk = (mLp g0 k).2) (h1 : (mLp g0 k).1 = 1) (c : (mTr gk k (gk 25 0 k)).1 = 0) (d : ¬ (mTr (mTr gk k (gk 25 0 k)).2 k (1 - gk 25 0 k)).1 = 0) :
    mLp g0 (k + 1) = (1, up (up (mTr (mTr gk k (gk 25 0 k)).2 k (1 - gk 25 0 k)).2 20 0 28 ((mTr (mTr gk k (gk 25 0 k)).2 k (1 - gk 25 0 k)).2 20 0 28 + 1)) 20 0 27 (k + 1)) := by
  have hs : mSt gk k = (1, up (mTr (mTr gk k (gk 25 0 k)).2 k (1 - gk 25 0 k)).2 20 0 28 ((mTr (mTr gk k (gk 25 0 k)).2 k (1 - gk 25 0 k)).2 20 0 28 + 1)) := (if_pos c).trans (if_neg d)
  show (if (mLp g0 k).1 = 0 then _ else if (mSt (mLp g0 k).2 k).1 = 0 then _ else _) = _
  rw [if_neg (by rw [h1]; decide), ← h, hs]
  rfl
theorem mLp_c {g0 gk : T3} {k : Nat} (h : gk = (mLp g0 k).2) (h1 : (mLp g0 k).1 = 1) (c : (mTr gk k (gk 25 0 k)).1 = 0) (d : (mTr (mTr gk k (gk 25 0 k)).2 k (1 - gk 25 0 k)).1 = 0) :
    mLp g0 (k + 1) = (0, (mTr (mTr gk k (gk 25 0 k)).2 k (1 - gk 25 0 k)).2) := by
  have hs : mSt gk k = (0, (mTr (mTr gk k (gk 25 0 k)).2 k (1 - gk 25 0 k)).2) := (if_pos c).trans (if_pos d)
  show (if (mLp g0 k).1 = 0 then _ else if (mSt (mLp g0 k).2 k).1 = 0 then _ else _) = _
  rw [if_neg (by rw [h1]; decide), ← h, hs]
  rfl
theorem mLp_0 {g0 : T3} {k : Nat} (h : (mLp g0 k).1 = 0) : ∀ m, mLp g0 (k + m) = mLp g0 k
  | 0 => rfl
  | m + 1 => by
    have h1 := mLp_0 h m
    show (if (mLp g0 (k + m)).1 = 0 then mLp g0 (k + m) else _) = _
    rw [h1, if_pos h]
def mFil (g : T3) : Nat → T3
  | 0 => g
  | k + 1 => up (mFil g k) 36 0 k 0
def mClr (g : T3) : T3 := up (mFil (up (up g 20 0 26 0) 20 0 28 0) 3) 20 0 27 0
def mGo (g : T3) : Nat × T3 := (if (mLp (mClr g) (g 20 0 21)).1 = 0 ∨ g 20 0 21 = 0 then 0 else 1, (mLp (mClr g) (g 20 0 21)).2)
theorem mGo_le (g : T3) : (mGo g).1 ≤ 1 := by
  show (if _ then 0 else 1) ≤ 1
  split <;> decide
set_option maxHeartbeats 4000000 in
set_option maxRecDepth 100000 in
theorem c_X5_starts (l : Launch) (D : va_G) (Z : Nat → Nat) (N0 : Nat) (g : T3) (ad : T2) : Met l yX5_starts wsX5_starts ({ frames := 3, cells := 0, slots := 0, locals := 180 } : Room) (PC D Z N0 g ad [.ref (ad 20 0)]) (QI D Z N0 ad (fun (r : Int32) (g1 : T3) => Fr g g1 ∧ (r = nI (mGo g).1 ∧ g1 = (mGo g).2))) 0 0 (AA N0) := by
  refine Met.ofW (cc := cX5_starts) (maxL := 2) (ret := (some .boolean)) (by decide) rfl ?_
  intro pP eP sP mP args below meth cP s₁ B hmlP hvP
  obtain ⟨rfl, hW, hC⟩ := hvP
  have hx := B.exec
  have hb := B.bytes
  have hr := B.returns
  have hts := atoms_spec (ws := wsX5_starts) B.pre
  have hown : sP.vm.findClass RX5 = some mP.cls := findClass_of_methodNamed B.named
  have hlocks := B.notSynchronized
  have i_X5 : ∀ w ∈ wsX50, w ∈ wsX5_starts := (fun _ h => List.mem_cons_of_mem _ (List.mem_append_left _ (List.mem_append_right _ h)))
  have k_91 : Cond.fieldLink RX5 91 "StartChainModel" "triedEntries" "I" ∈ wsX5_starts := by decide +kernel
  have k_97 : Cond.fieldLink RX5 97 "StartChainModel" "triedFallbacks" "I" ∈ wsX5_starts := by decide +kernel
  have k_94 : Cond.fieldLink RX5 94 "StartChainModel" "triedStages" "I" ∈ wsX5_starts := by decide +kernel
  have k_76 : Cond.fieldLink RX5 76 "StartChainModel" "stages" "I" ∈ wsX5_starts := by decide +kernel
  have k_23 : Cond.fieldLink RX5 23 "StartChainModel" "actives" "[I" ∈ wsX5_starts := by decide +kernel
  have k_56 : Cond.fieldLink RX5 56 "StartChainModel" "triedValues" "[I" ∈ wsX5_starts := by decide +kernel
  have M : Mx pP mP cP cX5_starts 2 sP ([.ref (ad 20 0)] : List Value).toArray wsX5_starts RX5 D Z N0 := ⟨⟨hx, hb, hmlP, hown, hts⟩, hC⟩
  have hf : Fr g g := Fr.rf g
  have hS : va_S (AA N0) sP.heap sP.heap [] := va_S.rf
  have hl := lv_entry ([.ref (ad 20 0)]) (n := 2) (Nat.le_of_ble_eq_true rfl)
  rw [lg_entry_eq]
  generalize (lg_sl ([.ref (ad 20 0)]) ++ List.replicate (2 - (lg_sl ([.ref (ad 20 0)])).length) Slot.unset).toArray = ls at hl ⊢
  have hl : lv_has ls 2 [(0, .ref (ad 20 0))] := hl
  have hsz9 := hW.2.2.1.le 20 0 21 5 rfl
  refine lv_aload_n hx hb dX5_starts_0 rfl (lv_at hl 0 rfl) ?_
  refine lv_iconst (v := nI 0) hx hb dX5_starts_1 (by decide) ?_
  refine r_put M hW hS 20 0 (lvM _) rfl rfl i_X5 tyX5 tyX5_ok nmX5 26 (by decide) k_91 (fun _ h9 => h9) rfl (ty := .int) (by decide +kernel) rfl rfl (Nat.le_of_ble_eq_true rfl) rfl rfl (Or.inr (show 0 ≤ 12 by decide)) dX5_starts_2 (fun H locs hW hS => ?_)
  obtain ⟨g1_z, eg1_z⟩ : ∃ z, z = up g 20 0 26 0 := ⟨_, rfl⟩
  rw [← eg1_z] at hW
  have hf : Fr g g1_z := by rw [eg1_z]; exact hf.up rfl
  refine lv_aload_n hx hb dX5_starts_5 rfl (lv_at hl 0 rfl) ?_
  refine lv_iconst (v := nI 0) hx hb dX5_starts_6 (by decide) ?_
  refine r_put M hW hS 20 0 (lvM _) rfl rfl i_X5 tyX5 tyX5_ok nmX5 28 (by decide) k_97 (fun _ h9 => h9) rfl (ty := .int) (by decide +kernel) rfl rfl (Nat.le_of_ble_eq_true rfl) rfl rfl (Or.inl rfl) dX5_starts_7 (fun H locs hW hS => ?_)
  obtain ⟨g2_z, eg2_z⟩ : ∃ z, z = up g1_z 20 0 28 0 := ⟨_, rfl⟩
  rw [← eg2_z] at hW
  have hf : Fr g g2_z := by rw [eg2_z]; exact hf.up rfl
  refine lv_iconst (v := nI 0) hx hb dX5_starts_10 (by decide) ?_
  refine lv_istore_n (lv' := [(1, .int (nI (0))), (0, .ref (ad 20 0))]) hx hb dX5_starts_11 rfl hl (by decide) rfl (fun ls hl => ?_)
  refine k_loop (D := D) (Z := Z) (N0 := N0) (ad := ad) (g0 := g2_z) (σ := Unit) (a0 := ()) (3) 2 (0) (fun k gk a => Fr g gk ∧ (gk = mFil (up (up g 20 0 26 0) 20 0 28 0) k)) (fun k a => [(1, .int (nI (k))), (0, .ref (ad 20 0))]) (by decide) ⟨hf, (by rw [eg2_z, eg1_z]; rfl)⟩ hW hS (lv_sub hl [0, 1] rfl) (fun n k gk a H locs ls hkn hI hW hS hl ih => ?_)
  obtain ⟨hf, hI⟩ := hI
  refine lv_iload_n hx hb dX5_starts_12 rfl (lv_at hl 0 rfl) ?_
  refine lv_iconst (v := nI 3) hx hb dX5_starts_13 (by decide) ?_
  refine n_icmp_ge (tgt := 30) hx hb (by omega) (by decide) dX5_starts_14 (by decide) (fun c3_z => ?_) (fun c3_z => ?_)
  · refine lv_aload_n hx hb dX5_starts_30 rfl (lv_at hl 1 rfl) ?_
    refine lv_iconst (v := nI 0) hx hb dX5_starts_31 (by decide) ?_
    refine r_put M hW hS 20 0 (lvM _) rfl rfl i_X5 tyX5 tyX5_ok nmX5 27 (by decide) k_94 (fun _ h9 => h9) rfl (ty := .int) (by decide +kernel) rfl rfl (Nat.le_of_ble_eq_true rfl) rfl rfl (Or.inr (show 0 ≤ 6 by decide)) dX5_starts_32 (fun H locs hW hS => ?_)
    obtain ⟨g4_z, eg4_z⟩ : ∃ z, z = up gk 20 0 27 0 := ⟨_, rfl⟩
    rw [← eg4_z] at hW
    have hf : Fr g g4_z := by rw [eg4_z]; exact hf.up rfl
    refine k_loop (D := D) (Z := Z) (N0 := N0) (ad := ad) (g0 := g4_z) (σ := Unit) (a0 := ()) (g 20 0 21) 2 (0) (fun k gk a => Fr g gk ∧ ((mLp (mClr g) k).1 = 1 ∧ gk = (mLp (mClr g) k).2 ∧ gk 20 0 27 = k ∧ gk 20 0 26 ≤ 2 * k ∧ gk 20 0 21 = g 20 0 21)) (fun k a => [(0, .ref (ad 20 0))]) (Nat.zero_le _) ⟨hf, ⟨rfl, by rw [eg4_z, hI, show k = 3 by omega]; rfl, by rw [eg4_z]; rfl, by rw [eg4_z, hI, show k = 3 by omega]; exact Nat.le_of_eq rfl, by rw [eg4_z, hI, show k = 3 by omega]; rfl⟩⟩ hW hS (lv_sub hl [1] rfl) (fun n k gk a H locs ls hkn hI hW hS hl ih => ?_)
    obtain ⟨hf, hI⟩ := hI
    obtain ⟨hI1, hIg, h27, h26, h21⟩ := hI
    refine lv_aload_n hx hb dX5_starts_35 rfl (lv_at hl 0 rfl) ?_
    have b5_z : gk 20 0 27 ≤ 6 := hW.2.2.1.le 20 0 27 5 rfl
    refine r_get M hW 20 0 (lvM _) (v := .int (nI (gk 20 0 27))) rfl rfl i_X5 27 (by decide) k_94 (fun _ h9 => h9) rfl dX5_starts_36 ?_
    have q6_z : gk 20 0 27 = k := h27
    refine W.eq (g2 := F0 mP 39 ls (.int (nI (k)) :: [])) (congrArg (fun z => F0 mP 39 ls (.int (nI z) :: [])) q6_z) ?_
    refine lv_aload_n hx hb dX5_starts_39 rfl (lv_at hl 0 rfl) ?_
    have b7_z : gk 20 0 21 ≤ 6 := hW.2.2.1.le 20 0 21 5 rfl
    refine r_get M hW 20 0 (lvM _) (v := .int (nI (gk 20 0 21))) rfl rfl i_X5 21 (by decide) k_76 (fun _ h9 => h9) rfl dX5_starts_40 ?_
    refine n_icmp_ge (tgt := 110) hx hb (by omega) (Nat.lt_of_le_of_lt b7_z (by decide)) dX5_starts_43 (by decide) (fun c8_z => ?_) (fun c8_z => ?_)
    · refine lv_aload_n hx hb dX5_starts_110 rfl (lv_at hl 0 rfl) ?_
      have b9_z : gk 20 0 21 ≤ 6 := hW.2.2.1.le 20 0 21 5 rfl
      refine r_get M hW 20 0 (lvM _) (v := .int (nI (gk 20 0 21))) rfl rfl i_X5 21 (by decide) k_76 (fun _ h9 => h9) rfl dX5_starts_111 ?_
      refine n_if_le (tgt := 121) hx hb (Nat.lt_of_le_of_lt b9_z (by decide)) dX5_starts_114 (by decide) (fun c10_z => ?_) (fun c10_z => ?_)
      · refine lv_iconst (v := nI 0) hx hb dX5_starts_121 (by decide) ?_
        -- path 1
        exact W.zret (v := nI (0)) (ty := .boolean) hx hb hr (nar_b (show 0 ≤ 1 by decide)) (fun t ht hW9 => ⟨⟨nI (0), gk, rfl, ⟨hf, (by unfold mGo; rw [show mLp (mClr g) (g 20 0 21) = mLp (mClr g) k by rw [show g 20 0 21 = k by omega], if_pos (Or.inr (by omega))]; exact ⟨rfl, hIg⟩)⟩, (show Wd D Z N0 gk ad t.heap by rw [ht]; exact hW)⟩, hS.F ht⟩) hS.2.2 dX5_starts_122
      · refine lv_iconst (v := nI 1) hx hb dX5_starts_117 (by decide) ?_
        refine lv_goto (tgt := 122) hx hb dX5_starts_118 (by decide) ?_
        -- path 2
        exact W.zret (v := nI (1)) (ty := .boolean) hx hb hr (nar_b (show 1 ≤ 1 by decide)) (fun t ht hW9 => ⟨⟨nI (1), gk, rfl, ⟨hf, (by unfold mGo; rw [show mLp (mClr g) (g 20 0 21) = mLp (mClr g) k by rw [show g 20 0 21 = k by omega], if_neg (fun h => h.elim (fun h => absurd (hI1.symm.trans h) (by decide)) (fun h => by omega))]; exact ⟨rfl, hIg⟩)⟩, (show Wd D Z N0 gk ad t.heap by rw [ht]; exact hW)⟩, hS.F ht⟩) hS.2.2 dX5_starts_122
    · refine lv_aload_n hx hb dX5_starts_46 rfl (lv_at hl 0 rfl) ?_
      refine r_get M hW 20 0 (lvM _) (v := .ref (ad 25 0)) rfl rfl i_X5 4 (by decide) k_23 (fun _ h9 => h9) rfl dX5_starts_47 ?_
      refine lv_aload_n hx hb dX5_starts_50 rfl (lv_at hl 0 rfl) ?_
      have b11_z : gk 20 0 27 ≤ 6 := hW.2.2.1.le 20 0 27 5 rfl
      refine r_get M hW 20 0 (lvM _) (v := .int (nI (gk 20 0 27))) rfl rfl i_X5 27 (by decide) k_94 (fun _ h9 => h9) rfl dX5_starts_51 ?_
      have q12_z : gk 20 0 27 = k := h27
      refine W.eq (g2 := F0 mP 54 ls (.int (nI (k)) :: [.ref (ad 25 0)])) (congrArg (fun z => F0 mP 54 ls (.int (nI z) :: [.ref (ad 25 0)])) q12_z) ?_
      refine r_iald M hW 25 0 ⟨rfl, by decide, by decide⟩ (n := 6) rfl (by omega) (by decide) dX5_starts_54 ?_
      have b13_z : gk 25 0 k ≤ 1 := hW.2.2.1.le 25 0 k 0 rfl
      refine lv_istore_n (lv' := [(1, .int (nI (gk 25 0 k))), (0, .ref (ad 20 0))]) hx hb dX5_starts_55 rfl hl (by decide) rfl (fun ls hl => ?_)
      refine lv_aload_n hx hb dX5_starts_56 rfl (lv_at hl 1 rfl) ?_
      refine lv_aload_n hx hb dX5_starts_57 rfl (lv_at hl 1 rfl) ?_
      have b14_z : gk 20 0 27 ≤ 6 := hW.2.2.1.le 20 0 27 5 rfl
      refine r_get M hW 20 0 (lvM _) (v := .int (nI (gk 20 0 27))) rfl rfl i_X5 27 (by decide) k_94 (fun _ h9 => h9) rfl dX5_starts_58 ?_
      have q15_z : gk 20 0 27 = k := h27
      refine W.eq (g2 := F0 mP 61 ls (.int (nI (k)) :: [.ref (ad 20 0)])) (congrArg (fun z => F0 mP 61 ls (.int (nI z) :: [.ref (ad 20 0)])) q15_z) ?_
      refine lv_iload_n hx hb dX5_starts_61 rfl (lv_at hl 0 rfl) ?_
      refine k_ci (k_rV (As := [.int (nI (k)), .int (nI (gk 25 0 k))]) (rest := []) M hW hS (c_X5_tries l D Z N0 gk ad k (gk 25 0 k) (by omega) (by omega) (by omega)) (cwV 2 hts gX5_starts_X5_tries rfl rfl rfl (by decide +kernel) ⟨Nat.le_of_ble_eq_true rfl, Nat.le_of_ble_eq_true rfl⟩) (r_recv M.2 hW 20 0 (lvM _) rfl rfl) rfl hl.1 rfl (Nat.le_of_ble_eq_true rfl) dX5_starts_62 ⟨Nat.le_of_ble_eq_true rfl, Nat.le_of_ble_eq_true rfl⟩) hS (fun r17_z g16_z H locs hp hW hS => ?_)
      obtain ⟨hf1, hp⟩ := hp
      have hf : Fr g g16_z := hf.trans hf1
      obtain ⟨rfl, eg16_z⟩ := hp
      have f27_1 : g16_z 20 0 27 = k := by rw [eg16_z, mTr_fr (by decide) (by decide) (by decide) (by decide)]; exact h27
      have f26_1 : g16_z 20 0 26 ≤ gk 20 0 26 + 1 := by rw [eg16_z]; exact mTr_26 _ _ _
      have f21_1 : g16_z 20 0 21 = g 20 0 21 := by rw [eg16_z, mTr_fr (by decide) (by decide) (by decide) (by decide)]; exact h21
      refine n_if_eq (tgt := 71) hx hb (Nat.lt_of_le_of_lt (mTr_le _ _ _) (by decide)) dX5_starts_65 (by decide) (fun c18_z => ?_) (fun c18_z => ?_)
      · refine lv_aload_n hx hb dX5_starts_71 rfl (lv_at hl 1 rfl) ?_
        refine lv_aload_n hx hb dX5_starts_72 rfl (lv_at hl 1 rfl) ?_
        have b19_z : g16_z 20 0 27 ≤ 6 := hW.2.2.1.le 20 0 27 5 rfl
        refine r_get M hW 20 0 (lvM _) (v := .int (nI (g16_z 20 0 27))) rfl rfl i_X5 27 (by decide) k_94 (fun _ h9 => h9) rfl dX5_starts_73 ?_
        have q20_z : g16_z 20 0 27 = k := f27_1
        refine W.eq (g2 := F0 mP 76 ls (.int (nI (k)) :: [.ref (ad 20 0)])) (congrArg (fun z => F0 mP 76 ls (.int (nI z) :: [.ref (ad 20 0)])) q20_z) ?_
        refine lv_iconst (v := nI 1) hx hb dX5_starts_76 (by decide) ?_
        refine lv_iload_n hx hb dX5_starts_77 rfl (lv_at hl 0 rfl) ?_
        refine n_isub hx hb (by omega) dX5_starts_78 ?_
        refine k_ci (k_rV (As := [.int (nI (k)), .int (nI (1 - (gk 25 0 k)))]) (rest := []) M hW hS (c_X5_tries l D Z N0 g16_z ad k (1 - (gk 25 0 k)) (by omega) (by omega) (by omega)) (cwV 2 hts gX5_starts_X5_tries rfl rfl rfl (by decide +kernel) ⟨Nat.le_of_ble_eq_true rfl, Nat.le_of_ble_eq_true rfl⟩) (r_recv M.2 hW 20 0 (lvM _) rfl rfl) rfl hl.1 rfl (Nat.le_of_ble_eq_true rfl) dX5_starts_79 ⟨Nat.le_of_ble_eq_true rfl, Nat.le_of_ble_eq_true rfl⟩) hS (fun r22_z g21_z H locs hp hW hS => ?_)
        obtain ⟨hf1, hp⟩ := hp
        have hf : Fr g g21_z := hf.trans hf1
        obtain ⟨rfl, eg21_z⟩ := hp
        have f27_2 : g21_z 20 0 27 = k := by rw [eg21_z, mTr_fr (by decide) (by decide) (by decide) (by decide)]; exact f27_1
        have f26_2 : g21_z 20 0 26 ≤ g16_z 20 0 26 + 1 := by rw [eg21_z]; exact mTr_26 _ _ _
        have f21_2 : g21_z 20 0 21 = g 20 0 21 := by rw [eg21_z, mTr_fr (by decide) (by decide) (by decide) (by decide)]; exact f21_1
        refine n_if_ne (tgt := 87) hx hb (Nat.lt_of_le_of_lt (mTr_le _ _ _) (by decide)) dX5_starts_82 (by decide) (fun c23_z => ?_) (fun c23_z => ?_)
        · refine lv_aload_n hx hb dX5_starts_87 rfl (lv_at hl 1 rfl) ?_
          refine lv_dup hx hb dX5_starts_88 rfl ?_
          refine r_get M hW 20 0 (lvM _) (v := .int (nI (g21_z 20 0 28))) rfl rfl i_X5 28 (by decide) k_97 (fun _ h9 => h9) rfl dX5_starts_89 ?_
          refine lv_iconst (v := nI 1) hx hb dX5_starts_92 (by decide) ?_
          refine n_iadd hx hb dX5_starts_93 ?_
          refine r_put M hW hS 20 0 (lvM _) rfl rfl i_X5 tyX5 tyX5_ok nmX5 28 (by decide) k_97 (fun _ h9 => h9) rfl (ty := .int) (by decide +kernel) rfl rfl (Nat.le_of_ble_eq_true rfl) rfl rfl (Or.inl rfl) dX5_starts_94 (fun H locs hW hS => ?_)
          obtain ⟨g24_z, eg24_z⟩ : ∃ z, z = up g21_z 20 0 28 (g21_z 20 0 28 + 1) := ⟨_, rfl⟩
          rw [← eg24_z] at hW
          have hf : Fr g g24_z := by rw [eg24_z]; exact hf.up rfl
          refine lv_aload_n hx hb dX5_starts_97 rfl (lv_at hl 1 rfl) ?_
          refine lv_dup hx hb dX5_starts_98 rfl ?_
          have q25_z : g24_z 20 0 27 = g21_z 20 0 27 := by rw [eg24_z]; first | rfl | simp [up_at]
          have b26_z : g24_z 20 0 27 ≤ 6 := hW.2.2.1.le 20 0 27 5 rfl
          refine r_get M hW 20 0 (lvM _) (v := .int (nI (g24_z 20 0 27))) rfl rfl i_X5 27 (by decide) k_94 (fun _ h9 => h9) rfl dX5_starts_99 ?_
          have q27_z : g24_z 20 0 27 = k := by rw [eg24_z]; exact f27_2
          refine W.eq (g2 := F0 mP 102 ls (.int (nI (k)) :: [.ref (ad 20 0)])) (congrArg (fun z => F0 mP 102 ls (.int (nI z) :: [.ref (ad 20 0)])) q27_z) ?_
          refine lv_iconst (v := nI 1) hx hb dX5_starts_102 (by decide) ?_
          refine n_iadd hx hb dX5_starts_103 ?_
          refine r_put M hW hS 20 0 (lvM _) rfl rfl i_X5 tyX5 tyX5_ok nmX5 27 (by decide) k_94 (fun _ h9 => h9) rfl (ty := .int) (by decide +kernel) rfl rfl (Nat.le_of_ble_eq_true rfl) rfl rfl (Or.inr (show k + 1 ≤ 6 by omega)) dX5_starts_104 (fun H locs hW hS => ?_)
          obtain ⟨g28_z, eg28_z⟩ : ∃ z, z = up g24_z 20 0 27 (k + 1) := ⟨_, rfl⟩
          rw [← eg28_z] at hW
          have hf : Fr g g28_z := by rw [eg28_z]; exact hf.up rfl
          refine lv_goto (tgt := 35) hx hb dX5_starts_107 (by decide) ?_
          exact ih (by omega) g28_z (()) _ _ _ ⟨hf, ⟨by rw [mLp_b hIg hI1 c18_z (by rw [← eg16_z]; exact c23_z)], by rw [mLp_b hIg hI1 c18_z (by rw [← eg16_z]; exact c23_z), eg28_z, eg24_z, eg21_z, eg16_z], by rw [eg28_z]; rfl, by rw [eg28_z, eg24_z]; show g21_z 20 0 26 ≤ _; omega, by rw [eg28_z, eg24_z]; exact f21_2⟩⟩ hW hS (lv_sub hl [1] rfl)
        · refine lv_iconst (v := nI 0) hx hb dX5_starts_85 (by decide) ?_
          -- path 3
          exact W.zret (v := nI (0)) (ty := .boolean) hx hb hr (nar_b (show 0 ≤ 1 by decide)) (fun t ht hW9 => ⟨⟨nI (0), g21_z, rfl, ⟨hf, (by have hL := mLp_c hIg hI1 c18_z (by rw [← eg16_z]; exact c23_z); have hN : mLp (mClr g) (g 20 0 21) = mLp (mClr g) (k + 1) := (by rw [show g 20 0 21 = (k + 1) + (g 20 0 21 - (k + 1)) by omega]; exact mLp_0 (by rw [hL]) _); unfold mGo; rw [hN, hL, if_pos (Or.inl rfl)]; exact ⟨rfl, by rw [eg21_z, eg16_z]⟩)⟩, (show Wd D Z N0 g21_z ad t.heap by rw [ht]; exact hW)⟩, hS.F ht⟩) hS.2.2 dX5_starts_86
      · refine lv_goto (tgt := 97) hx hb dX5_starts_68 (by decide) ?_
        refine lv_aload_n hx hb dX5_starts_97 rfl (lv_at hl 1 rfl) ?_
        refine lv_dup hx hb dX5_starts_98 rfl ?_
        have b29_z : g16_z 20 0 27 ≤ 6 := hW.2.2.1.le 20 0 27 5 rfl
        refine r_get M hW 20 0 (lvM _) (v := .int (nI (g16_z 20 0 27))) rfl rfl i_X5 27 (by decide) k_94 (fun _ h9 => h9) rfl dX5_starts_99 ?_
        have q30_z : g16_z 20 0 27 = k := f27_1
        refine W.eq (g2 := F0 mP 102 ls (.int (nI (k)) :: [.ref (ad 20 0)])) (congrArg (fun z => F0 mP 102 ls (.int (nI z) :: [.ref (ad 20 0)])) q30_z) ?_
        refine lv_iconst (v := nI 1) hx hb dX5_starts_102 (by decide) ?_
        refine n_iadd hx hb dX5_starts_103 ?_
        refine r_put M hW hS 20 0 (lvM _) rfl rfl i_X5 tyX5 tyX5_ok nmX5 27 (by decide) k_94 (fun _ h9 => h9) rfl (ty := .int) (by decide +kernel) rfl rfl (Nat.le_of_ble_eq_true rfl) rfl rfl (Or.inr (show k + 1 ≤ 6 by omega)) dX5_starts_104 (fun H locs hW hS => ?_)
        obtain ⟨g31_z, eg31_z⟩ : ∃ z, z = up g16_z 20 0 27 (k + 1) := ⟨_, rfl⟩
        rw [← eg31_z] at hW
        have hf : Fr g g31_z := by rw [eg31_z]; exact hf.up rfl
        refine lv_goto (tgt := 35) hx hb dX5_starts_107 (by decide) ?_
        exact ih (by omega) g31_z (()) _ _ _ ⟨hf, ⟨by rw [mLp_a hIg hI1 c18_z], by rw [mLp_a hIg hI1 c18_z, eg31_z, eg16_z], by rw [eg31_z]; rfl, by rw [eg31_z]; show g16_z 20 0 26 ≤ _; omega, by rw [eg31_z]; exact f21_1⟩⟩ hW hS (lv_sub hl [1] rfl)
  · refine lv_aload_n hx hb dX5_starts_17 rfl (lv_at hl 1 rfl) ?_
    refine r_get M hW 20 0 (lvM _) (v := .ref (ad 36 0)) rfl rfl i_X5 15 (by decide) k_56 (fun _ h9 => h9) rfl dX5_starts_18 ?_
    refine lv_iload_n hx hb dX5_starts_21 rfl (lv_at hl 0 rfl) ?_
    refine lv_iconst (v := nI 0) hx hb dX5_starts_22 (by decide) ?_
    refine r_ist M hW hS 36 0 ⟨rfl, by decide, by decide⟩ (n := 3) (fun _ => rfl) (by omega) (by decide) rfl (Or.inr (show 0 ≤ 9972 by decide)) dX5_starts_23 (fun H locs hW hS => ?_)
    obtain ⟨g32_z, eg32_z⟩ : ∃ z, z = up gk 36 0 k 0 := ⟨_, rfl⟩
    rw [← eg32_z] at hW
    have hf : Fr g g32_z := by rw [eg32_z]; exact hf.up rfl
    refine lv_iinc (v := nI (k + 1)) (lv' := [(1, .int (nI (k + 1))), (0, .ref (ad 20 0))]) hx hb dX5_starts_24 hl (k := 0) rfl (nI_add _ _) (by decide) rfl (fun ls hl => ?_)
    refine lv_goto (tgt := 12) hx hb dX5_starts_27 (by decide) ?_
    exact ih (by omega) g32_z (()) _ _ _ ⟨hf, (by rw [eg32_z, hI]; try rfl)⟩ hW hS (lv_sub hl [0, 1] rfl)
