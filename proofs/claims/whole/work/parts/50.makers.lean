/-! THE METHODS THAT MAKE OBJECTS: put, addStage, install, seal. -/
abbrev NoA : Nat → Prop := fun _ => False
theorem up_id (g : T3) (k i j : Nat) : up g k i j (g k i j) = g := by
  funext a b q
  rw [up_at]
  split
  · rename_i h
    rw [h.1, h.2.1, h.2.2]
  · rfl
def pSl (g : T3) (i : Nat) : Nat := if g 11 i (g 10 i 2) = 0 then g 10 i 2 else (if g 10 i 2 = 0 then 1 else 0)
theorem pSl_le {g : T3} (h : okk g) (i : Nat) : pSl g i ≤ 1 := by
  have h1 := h.le 10 i 2 0 rfl
  unfold pSl
  split
  · exact h1
  · split <;> decide
def asG (g : T3) (i : Nat) : T3 := addG (up (stG g (g 3 0 2) i) 3 0 0 (stG g (g 3 0 2) i 3 0 0 + 1)) 0 (g 3 0 2)
def slG (g : T3) (a b : Nat) : T3 := addG (up (bnT (scG g (g 3 1 2) a b) (g 3 1 2) 0) 3 1 0 (bnT (scG g (g 3 1 2) a b) (g 3 1 2) 0 3 1 0 + 1)) 1 (g 3 1 2)
set_option maxHeartbeats 4000000 in
set_option maxRecDepth 100000 in
theorem c2_X3_spare (l : Launch) (D : va_G) (Z : Nat → Nat) (N0 : Nat) (g : T3) (ad : T2) (i : Nat) (hl10 : lv g 10 i) : Met l yX3_spare wsX3_spare ({ frames := 0, cells := 0, slots := 0, locals := 60 } : Room) (PC D Z N0 g ad [.ref (ad 10 i)]) (va_Qi (fun (r : Int32) (g1 : T3) => Fr g g1 ∧ (r = nI (if g 10 i 2 = 0 then 1 else 0) ∧ g = g1)) (QB D Z N0 ad) NoA) 0 0 NoA := by
  refine Met.ofW (cc := cX3_spare) (maxL := 1) (ret := (some .int)) (by decide) rfl ?_
  intro pP eP sP mP args below meth cP s₁ B hmlP hvP
  obtain ⟨rfl, hW, hC⟩ := hvP
  have hx := B.exec
  have hb := B.bytes
  have hr := B.returns
  have hts := atoms_spec (ws := wsX3_spare) B.pre
  have hown : sP.vm.findClass RX3 = some mP.cls := findClass_of_methodNamed B.named
  have hlocks := B.notSynchronized
  have i_X3 : ∀ w ∈ wsX30, w ∈ wsX3_spare := (fun _ h => List.mem_cons_of_mem _ (List.mem_append_right _ h))
  have k_21 : Cond.fieldLink RX3 21 "StartChain$Stage" "active" "I" ∈ wsX3_spare := by decide +kernel
  have M : Mx pP mP cP cX3_spare 1 sP ([.ref (ad 10 i)] : List Value).toArray wsX3_spare RX3 D Z N0 := ⟨⟨hx, hb, hmlP, hown, hts⟩, hC⟩
  have hf : Fr g g := Fr.rf g
  have hS : va_S NoA sP.heap sP.heap [] := va_S.rf
  have hl := lv_entry ([.ref (ad 10 i)]) (n := 1) (Nat.le_of_ble_eq_true rfl)
  rw [lg_entry_eq]
  generalize (lg_sl ([.ref (ad 10 i)]) ++ List.replicate (1 - (lg_sl ([.ref (ad 10 i)])).length) Slot.unset).toArray = ls at hl ⊢
  have hl : lv_has ls 1 [(0, .ref (ad 10 i))] := hl
  refine lv_aload_n hx hb dX3_spare_0 rfl (lv_at hl 0 rfl) ?_
  have b1_z : g 10 i 2 ≤ 1 := hW.2.2.1.le 10 i 2 0 rfl
  refine r_get M hW 10 i (hf.lv hl10) (v := .int (nI (g 10 i 2))) rfl rfl i_X3 2 (by decide) k_21 (fun _ h9 => h9) rfl dX3_spare_1 ?_
  refine n_if_ne (tgt := 11) hx hb (Nat.lt_of_le_of_lt b1_z (by decide)) dX3_spare_4 (by decide) (fun c2_z => ?_) (fun c2_z => ?_)
  · refine lv_iconst (v := nI 0) hx hb dX3_spare_11 (by decide) ?_
    -- path 1
    exact W.iret (v := nI (0)) hx hb hr (fun t ht hW9 => ⟨⟨nI (0), g, rfl, ⟨hf, ⟨by rw [if_neg c2_z], rfl⟩⟩, (show Wd D Z N0 g ad t.heap by rw [ht]; exact hW)⟩, hS.F ht⟩) hS.2.2 dX3_spare_12
  · refine lv_iconst (v := nI 1) hx hb dX3_spare_7 (by decide) ?_
    refine lv_goto (tgt := 12) hx hb dX3_spare_8 (by decide) ?_
    -- path 2
    exact W.iret (v := nI (1)) hx hb hr (fun t ht hW9 => ⟨⟨nI (1), g, rfl, ⟨hf, ⟨by rw [if_pos c2_z], rfl⟩⟩, (show Wd D Z N0 g ad t.heap by rw [ht]; exact hW)⟩, hS.F ht⟩) hS.2.2 dX3_spare_12
set_option maxHeartbeats 4000000 in
set_option maxRecDepth 100000 in
theorem c_X3_put (l : Launch) (D : va_G) (Z : Nat → Nat) (N0 : Nat) (g : T3) (ad : T2) (i q a b d : Nat) (hl10 : lv g 10 i) (hI2 : ∀ i q, 2 ≤ q → g 11 i q = 0) (ha9 : a ≤ 9) (hb99 : b ≤ 99) (hd9 : d ≤ 999) : Met l yX3_put wsX3_put ({ frames := 1, cells := 0, slots := 0, locals := 100 } : Room) (PI D Z N0 g ad q a b d [.ref (ad 10 i), .ref q]) (QA D Z N0 (fun (r : Int32) (g1 : T3) (ad1 : T2) => r = nI (pSl g i) ∧ g1 = imG (up g 10 i 2 (pSl g i)) i (pSl g i) a b d ∧ AdS ad ad1)) 0 0 (AA N0) := by
  refine Met.ofW (cc := cX3_put) (maxL := 2) (ret := (some .int)) (by decide) rfl ?_
  intro pP eP sP mP args below meth cP s₁ B hmlP hvP
  obtain ⟨rfl, hW, hC, hq, hR⟩ := hvP
  have hx := B.exec
  have hb := B.bytes
  have hr := B.returns
  have hts := atoms_spec (ws := wsX3_put) B.pre
  have hown : sP.vm.findClass RX3 = some mP.cls := findClass_of_methodNamed B.named
  have hlocks := B.notSynchronized
  have i_X3 : ∀ w ∈ wsX30, w ∈ wsX3_put := (fun _ h => List.mem_cons_of_mem _ (List.mem_append_right _ h))
  have k_17 : Cond.fieldLink RX3 17 "StartChain$Stage" "images" "[LStartChain$Image;" ∈ wsX3_put := by decide +kernel
  have k_21 : Cond.fieldLink RX3 21 "StartChain$Stage" "active" "I" ∈ wsX3_put := by decide +kernel
  have M : Mx pP mP cP cX3_put 2 sP ([.ref (ad 10 i), .ref q] : List Value).toArray wsX3_put RX3 D Z N0 := ⟨⟨hx, hb, hmlP, hown, hts⟩, hC⟩
  have hf : Fr g g := Fr.rf g
  have hS : va_S (AA N0) sP.heap sP.heap [] := va_S.rf
  have hl := lv_entry ([.ref (ad 10 i), .ref q]) (n := 2) (Nat.le_of_ble_eq_true rfl)
  rw [lg_entry_eq]
  generalize (lg_sl ([.ref (ad 10 i), .ref q]) ++ List.replicate (2 - (lg_sl ([.ref (ad 10 i), .ref q])).length) Slot.unset).toArray = ls at hl ⊢
  have hl : lv_has ls 2 [(0, .ref (ad 10 i)), (1, .ref q)] := hl
  obtain ⟨sl, hsl⟩ : ∃ z, z = pSl g i := ⟨_, rfl⟩
  have hsl1 : sl ≤ 1 := by rw [hsl]; exact pSl_le hW.2.2.1 i
  refine lv_aload_n hx hb dX3_put_0 rfl (lv_at hl 0 rfl) ?_
  refine r_get M hW 10 i (hf.lv hl10) (v := .ref (ad 11 i)) rfl rfl i_X3 1 (by decide) k_17 (fun _ h9 => h9) rfl dX3_put_1 ?_
  refine lv_aload_n hx hb dX3_put_4 rfl (lv_at hl 0 rfl) ?_
  have b1_z : g 10 i 2 ≤ 1 := hW.2.2.1.le 10 i 2 0 rfl
  refine r_get M hW 10 i (hf.lv hl10) (v := .int (nI (g 10 i 2))) rfl rfl i_X3 2 (by decide) k_21 (fun _ h9 => h9) rfl dX3_put_5 ?_
  refine r_aald M hW 11 i (hf.lv hl10) (t := 3) (C := "StartChain$Image") rfl rfl (Nat.lt_of_le_of_lt b1_z (by decide)) (by decide) dX3_put_8 ?_
  by_cases c2_z : g 11 i (g 10 i 2) = 0
  · refine W.eq (g2 := F0 mP 9 ls (.null :: [])) (congrArg (fun z => F0 mP 9 ls (va_rf z :: [])) (if_pos c2_z)) ?_
    refine lv_ifnullN (tgt := 20) hx hb dX3_put_9 (by decide) ?_
    have hse : sl = g 10 i 2 := by rw [hsl]; unfold pSl; rw [if_pos c2_z]
    have hW : Wd D Z N0 (up g 10 i 2 sl) ad sP.heap := by rw [hse, up_id]; exact hW
    have hR : RA (up g 10 i 2 sl) ad N0 q := ⟨hR.1, fun k i h => hR.2 k i (lv_of (fun _ _ hq => safe_3 rfl hq) (fun _ _ => safe_11 rfl) h)⟩
    obtain ⟨gA, hgA⟩ : ∃ z, z = up g 10 i 2 sl := ⟨_, rfl⟩
    rw [← hgA] at hW hR
    have hl10 : lv gA 10 i := by rw [hgA]; exact hl10
    have zA : gA 10 i 2 = sl := by rw [hgA, up_at, if_pos ⟨rfl, rfl, rfl⟩]
    have hI2 : ∀ i q, 2 ≤ q → gA 11 i q = 0 := fun a b h => by rw [hgA]; exact hI2 a b h
    have hf : Fr gA gA := Fr.rf _
    refine lv_aload_n hx hb dX3_put_20 rfl (lv_at hl 0 rfl) ?_
    refine r_get M hW 10 i (hf.lv hl10) (v := .ref (ad 11 i)) rfl rfl i_X3 1 (by decide) k_17 (fun _ h9 => h9) rfl dX3_put_21 ?_
    refine lv_aload_n hx hb dX3_put_24 rfl (lv_at hl 0 rfl) ?_
    have b3_z : gA 10 i 2 ≤ 1 := hW.2.2.1.le 10 i 2 0 rfl
    refine r_get M hW 10 i (hf.lv hl10) (v := .int (nI (gA 10 i 2))) rfl rfl i_X3 2 (by decide) k_21 (fun _ h9 => h9) rfl dX3_put_25 ?_
    have q4_z : gA 10 i 2 = sl := zA
    refine W.eq (g2 := F0 mP 28 ls (.int (nI (sl)) :: [.ref (ad 11 i)])) (congrArg (fun z => F0 mP 28 ls (.int (nI z) :: [.ref (ad 11 i)])) q4_z) ?_
    refine lv_aload_n hx hb dX3_put_28 rfl (lv_at hl 1 rfl) ?_
    refine r_img M hW hS hl10 (Nat.lt_succ_of_le hsl1) hI2 hq hR ha9 hb99 hd9 dX3_put_29 (fun H locs hW hS => ?_)
    obtain ⟨adx, hadx⟩ : ∃ z, z = ad2 ad 12 (2 * i + sl) q := ⟨_, rfl⟩
    obtain ⟨gB, hgB⟩ : ∃ z, z = imG gA i sl a b d := ⟨_, rfl⟩
    rw [← hadx, ← hgB] at hW
    have e10 : ad 10 i = adx 10 i := by rw [hadx, ad2_n _ _ _ _ (by omega)]
    rw [e10] at hl
    have hl10 : lv gB 10 i := by rw [hgB]; show i < imG gA i sl a b d 3 0 3; rw [imG_o (by omega) (by omega)]; exact hl10
    have zB : gB 10 i 2 = sl := by rw [hgB, imG_o (by omega) (by omega)]; exact zA
    have hf : Fr gB gB := Fr.rf _
    have hAS : AdS ad adx := by rw [hadx]; exact (AdS.rf _).up (by decide)
    refine lv_aload_n hx hb dX3_put_30 rfl (lv_at hl 0 rfl) ?_
    have b5_z : gB 10 i 2 ≤ 1 := hW.2.2.1.le 10 i 2 0 rfl
    refine r_get M hW 10 i (hf.lv hl10) (v := .int (nI (gB 10 i 2))) rfl rfl i_X3 2 (by decide) k_21 (fun _ h9 => h9) rfl dX3_put_31 ?_
    have q6_z : gB 10 i 2 = sl := zB
    refine W.eq (g2 := F0 mP 34 ls (.int (nI (sl)) :: [])) (congrArg (fun z => F0 mP 34 ls (.int (nI z) :: [])) q6_z) ?_
    -- path 1
    exact W.iret (v := nI (sl)) hx hb hr (fun t ht hW9 => ⟨⟨nI (sl), (gB, adx), rfl, ⟨(by rw [hsl]), (by rw [hgB, hgA, hsl]), hAS⟩, (show Wd D Z N0 gB adx t.heap by rw [ht]; exact hW)⟩, hS.F ht⟩) hS.2.2 dX3_put_34
  · refine W.eq (g2 := F0 mP 9 ls (.ref (ad 12 (2 * i + (g 10 i 2))) :: [])) (congrArg (fun z => F0 mP 9 ls (va_rf z :: [])) (if_neg c2_z)) ?_
    have hl7_z : lv g 12 (2 * i + (g 10 i 2)) := lv12 (hf.lv hl10) (Nat.lt_of_le_of_lt b1_z (by decide)) c2_z
    refine lv_ifnull hx hb dX3_put_9 ?_
    refine lv_aload_n hx hb dX3_put_12 rfl (lv_at hl 0 rfl) ?_
    refine lv_aload_n hx hb dX3_put_13 rfl (lv_at hl 0 rfl) ?_
    refine va_calli (va_runV (As := []) (rest := [.ref (ad 10 i)]) M.1 (c2_X3_spare l D Z N0 g ad i hl10) (cwV 0 hts gX3_put_X3_spare rfl rfl rfl (by decide +kernel) ⟨(Nat.le_of_ble_eq_true rfl), (Nat.le_of_ble_eq_true rfl)⟩) (k_pV M hW hS (r_recv M.2 hW 10 i hl10 rfl rfl)) rfl rfl hl.1 rfl (lv_room (Nat.le_of_ble_eq_true rfl)) dX3_put_14 ⟨(Nat.le_of_ble_eq_true rfl), (Nat.le_of_ble_eq_true rfl)⟩) hS (fun _ _ h => h.elim) (fun _ h => h.elim) (fun r u t H1 locs ht _ hp hB hz1 hk1 hS => ?_)
    obtain ⟨-, rfl, rfl⟩ := hp
    have hq := hq.kept (hk1 _ hq.lt (fun h => h))
    have hW := hW.kept (fun x hx => hk1 x hx (fun h => h))
    generalize H1 = H at hW hS hq ⊢
    have hse : (if g 10 i 2 = 0 then 1 else 0) = sl := by rw [hsl]; unfold pSl; rw [if_neg c2_z]
    refine W.eq (g2 := F0 mP 17 ls (.int (nI sl) :: [.ref (ad 10 i)])) (congrArg (fun z => F0 mP 17 ls (.int (nI z) :: [.ref (ad 10 i)])) hse) ?_
    refine r_putv (C := RX3) (T := TX3) (N := 4) (ty := .int) M hS (hW.1 10 i hl10).1 (hW.1 10 i hl10).2 rfl i_X3 tyX3 tyX3_ok nmX3 2 (by decide) k_21 (fun _ h9 => h9) rfl (by decide +kernel) rfl rfl (Nat.le_of_ble_eq_true rfl) dX3_put_17 (fun H locs ha1 oq hS => ?_)
    have hq := hq.kept (oq _ (fun h => hR.2 10 i hl10 h.symm))
    have hW := hW.st (v := sl) (j := 2) rfl hl10 (Or.inr hsl1) ha1 oq
    have hR : RA (up g 10 i 2 sl) ad N0 q := ⟨hR.1, fun k i h => hR.2 k i (lv_of (fun _ _ hq => safe_3 rfl hq) (fun _ _ => safe_11 rfl) h)⟩
    obtain ⟨gA, hgA⟩ : ∃ z, z = up g 10 i 2 sl := ⟨_, rfl⟩
    rw [← hgA] at hW hR
    have hl10 : lv gA 10 i := by rw [hgA]; exact hl10
    have zA : gA 10 i 2 = sl := by rw [hgA, up_at, if_pos ⟨rfl, rfl, rfl⟩]
    have hI2 : ∀ i q, 2 ≤ q → gA 11 i q = 0 := fun a b h => by rw [hgA]; exact hI2 a b h
    have hf : Fr gA gA := Fr.rf _
    refine lv_aload_n hx hb dX3_put_20 rfl (lv_at hl 0 rfl) ?_
    refine r_get M hW 10 i (hf.lv hl10) (v := .ref (ad 11 i)) rfl rfl i_X3 1 (by decide) k_17 (fun _ h9 => h9) rfl dX3_put_21 ?_
    refine lv_aload_n hx hb dX3_put_24 rfl (lv_at hl 0 rfl) ?_
    have b8_z : gA 10 i 2 ≤ 1 := hW.2.2.1.le 10 i 2 0 rfl
    refine r_get M hW 10 i (hf.lv hl10) (v := .int (nI (gA 10 i 2))) rfl rfl i_X3 2 (by decide) k_21 (fun _ h9 => h9) rfl dX3_put_25 ?_
    have q9_z : gA 10 i 2 = sl := zA
    refine W.eq (g2 := F0 mP 28 ls (.int (nI (sl)) :: [.ref (ad 11 i)])) (congrArg (fun z => F0 mP 28 ls (.int (nI z) :: [.ref (ad 11 i)])) q9_z) ?_
    refine lv_aload_n hx hb dX3_put_28 rfl (lv_at hl 1 rfl) ?_
    refine r_img M hW hS hl10 (Nat.lt_succ_of_le hsl1) hI2 hq hR ha9 hb99 hd9 dX3_put_29 (fun H locs hW hS => ?_)
    obtain ⟨adx, hadx⟩ : ∃ z, z = ad2 ad 12 (2 * i + sl) q := ⟨_, rfl⟩
    obtain ⟨gB, hgB⟩ : ∃ z, z = imG gA i sl a b d := ⟨_, rfl⟩
    rw [← hadx, ← hgB] at hW
    have e10 : ad 10 i = adx 10 i := by rw [hadx, ad2_n _ _ _ _ (by omega)]
    rw [e10] at hl
    have hl10 : lv gB 10 i := by rw [hgB]; show i < imG gA i sl a b d 3 0 3; rw [imG_o (by omega) (by omega)]; exact hl10
    have zB : gB 10 i 2 = sl := by rw [hgB, imG_o (by omega) (by omega)]; exact zA
    have hf : Fr gB gB := Fr.rf _
    have hAS : AdS ad adx := by rw [hadx]; exact (AdS.rf _).up (by decide)
    refine lv_aload_n hx hb dX3_put_30 rfl (lv_at hl 0 rfl) ?_
    have b10_z : gB 10 i 2 ≤ 1 := hW.2.2.1.le 10 i 2 0 rfl
    refine r_get M hW 10 i (hf.lv hl10) (v := .int (nI (gB 10 i 2))) rfl rfl i_X3 2 (by decide) k_21 (fun _ h9 => h9) rfl dX3_put_31 ?_
    have q11_z : gB 10 i 2 = sl := zB
    refine W.eq (g2 := F0 mP 34 ls (.int (nI (sl)) :: [])) (congrArg (fun z => F0 mP 34 ls (.int (nI z) :: [])) q11_z) ?_
    -- path 2
    exact W.iret (v := nI (sl)) hx hb hr (fun t ht hW9 => ⟨⟨nI (sl), (gB, adx), rfl, ⟨(by rw [hsl]), (by rw [hgB, hgA, hsl]), hAS⟩, (show Wd D Z N0 gB adx t.heap by rw [ht]; exact hW)⟩, hS.F ht⟩) hS.2.2 dX3_put_34

set_option maxHeartbeats 4000000 in
set_option maxRecDepth 100000 in
theorem c_X4_addStage (l : Launch) (hfl : l.stackTraces = false) (D : va_G) (Z : Nat → Nat) (N0 : Nat) (g : T3) (ad : T2) (x : Int32) (hIv : Iv g) : vx_Met l yX4_addStage wsX4_addStage ({ frames := 7, cells := 3, slots := 16, locals := 340 } : Room) (PC D Z N0 g ad [.ref (ad 0 0), .int (x)]) (QA D Z N0 (fun (r : Int32) (g1 : T3) (ad1 : T2) => ∃ i, i < 3 ∧ x = nI i ∧ g 3 0 2 < 6 ∧ g 0 0 6 = 111 ∧ r = nI (g 3 0 2) ∧ g1 = asG g i ∧ AdS ad ad1)) (QX D Z N0 g ad (fun E => (E = "java/lang/IllegalArgumentException" ∧ ¬ Ix 3 x) ∨ (E = "java/lang/IllegalStateException" ∧ Ix 3 x ∧ (¬ g 3 0 2 < 6 ∨ ¬ g 0 0 6 = 111)))) 3 16 (AA N0) := by
  refine vx_ofW (cc := cX4_addStage) (maxL := 2) (ret := (some .int)) (by decide) rfl ?_
  intro pP eP sP mP args below meth cP s₁ B hmlP hnt hvP
  obtain ⟨rfl, hW, hC⟩ := hvP
  have hx := B.exec
  have hb := B.bytes
  have hr := B.returns
  have hts := atoms_spec (ws := wsX4_addStage) B.pre
  have hown : sP.vm.findClass RX4 = some mP.cls := findClass_of_methodNamed B.named
  have hlocks := B.notSynchronized
  have i_X4 : ∀ w ∈ wsX40, w ∈ wsX4_addStage := (fun _ h => List.mem_cons_of_mem _ (List.mem_append_left _ (List.mem_append_left _ (List.mem_append_left _ (List.mem_append_left _ (List.mem_append_right _ h))))))
  have k_16 : Cond.fieldLink RX4 16 "StartChain" "stages" "Ljava/util/ArrayList;" ∈ wsX4_addStage := by decide +kernel
  have w_Cond_classLink_RX4_65__java_lang_IllegalStateException_ : Cond.classLink RX4 65 "java/lang/IllegalStateException" ∈ wsX4_addStage := by decide +kernel
  have w_Cond_initialized__java_lang_IllegalStateException_ : Cond.initialized "java/lang/IllegalStateException" ∈ wsX4_addStage := by decide +kernel
  have s_ISE : ∀ w ∈ (vx_atS RX4 69 "java/lang/IllegalStateException" thN).filter goodWord, w ∈ wsX4_addStage := (fun _ h => List.mem_cons_of_mem _ (List.mem_append_right _ h))
  have k_36 : Cond.fieldLink RX4 36 "StartChain" "state" "C" ∈ wsX4_addStage := by decide +kernel
  have i_X3 : ∀ w ∈ wsX30, w ∈ wsX4_addStage := (fun _ h => List.mem_cons_of_mem _ (List.mem_append_left _ (List.mem_append_left _ (List.mem_append_left _ (List.mem_append_right _ h)))))
  have w_Cond_classLink_RX4_70_RX3 : Cond.classLink RX4 70 RX3 ∈ wsX4_addStage := by decide +kernel
  have w_Cond_instantiable_RX3_4 : Cond.instantiable RX3 4 ∈ wsX4_addStage := by decide +kernel
  have w_Cond_initialized_RX3 : Cond.initialized RX3 ∈ wsX4_addStage := by decide +kernel
  have w_Cond_methodLink_RX4_72_yX3_init : Cond.methodLink RX4 72 yX3_init ∈ wsX4_addStage := by decide +kernel
  have w_Cond_instanceMethod_yX3_init : Cond.instanceMethod yX3_init ∈ wsX4_addStage := by decide +kernel
  have w_Cond_classLink_RX4_48__java_lang_IllegalArgumentException_ : Cond.classLink RX4 48 "java/lang/IllegalArgumentException" ∈ wsX4_addStage := by decide +kernel
  have w_Cond_initialized__java_lang_IllegalArgumentException_ : Cond.initialized "java/lang/IllegalArgumentException" ∈ wsX4_addStage := by decide +kernel
  have s_IAE : ∀ w ∈ (vx_atS RX4 52 "java/lang/IllegalArgumentException" thN).filter goodWord, w ∈ wsX4_addStage := (fun _ h => List.mem_cons_of_mem _ (List.mem_append_left _ (List.mem_append_right _ h)))
  have M : Mx pP mP cP cX4_addStage 2 sP ([.ref (ad 0 0), .int (x)] : List Value).toArray wsX4_addStage RX4 D Z N0 := ⟨⟨hx, hb, hmlP, hown, hts⟩, hC⟩
  have hf : Fr g g := Fr.rf g
  have hS : va_S (AA N0) sP.heap sP.heap [] := va_S.rf
  have hl := lv_entry ([.ref (ad 0 0), .int (x)]) (n := 2) (Nat.le_of_ble_eq_true rfl)
  rw [lg_entry_eq]
  generalize (lg_sl ([.ref (ad 0 0), .int (x)]) ++ List.replicate (2 - (lg_sl ([.ref (ad 0 0), .int (x)])).length) Slot.unset).toArray = ls at hl ⊢
  have hl : lv_has ls 2 [(0, .ref (ad 0 0)), (1, .int (x))] := hl
  refine lv_iload_n hx hb dX4_addStage_0 rfl (lv_at hl 1 rfl) ?_
  refine k_ci (k_rS (As := [.int (x)]) (rest := []) M hW hS (c_X4_isRegister l D Z N0 g ad (x)) (va_cwS 1 hts gX4_addStage_X4_isRegister rfl rfl rfl (by decide +kernel) ⟨Nat.le_of_ble_eq_true rfl, Nat.le_of_ble_eq_true rfl⟩) rfl hl.1 rfl (Nat.le_of_ble_eq_true rfl) dX4_addStage_1 ⟨Nat.le_of_ble_eq_true rfl, Nat.le_of_ble_eq_true rfl⟩) hS (fun r2_z g1_z H locs hp hW hS => ?_)
  obtain ⟨hf1, hp⟩ := hp
  have hf : Fr g g1_z := hf.trans hf1
  obtain ⟨hp, hg⟩ := hp
  subst hg
  rcases hp with ⟨rfl, c3_z⟩ | ⟨rfl, c3_z⟩
  · obtain ⟨i, hi, rfl⟩ := c3_z
    refine n_if_ne (tgt := 17) hx hb (by decide) dX4_addStage_4 (by decide) (fun _ => ?_) (fun h9 => absurd h9 (by decide))
    refine lv_aload_n hx hb dX4_addStage_17 rfl (lv_at hl 0 rfl) ?_
    refine r_get M hW 0 0 (lv0 _) (v := .ref (ad 3 0)) rfl rfl i_X4 1 (by decide) k_16 (fun _ h9 => h9) rfl dX4_addStage_18 ?_
    refine k_ci (k_rV (As := []) (rest := []) M hW hS (c_Jx4a65c_size_8abf5 l D Z N0 g ad 0 (by decide)) (cwV 0 hts gX4_addStage_Jx4a65c_size_8abf5 rfl rfl rfl (by decide +kernel) ⟨Nat.le_of_ble_eq_true rfl, Nat.le_of_ble_eq_true rfl⟩) (r_recv M.2 hW 3 0 (show (0 : Nat) < 2 by decide) rfl rfl) rfl hl.1 rfl (Nat.le_of_ble_eq_true rfl) dX4_addStage_21 ⟨Nat.le_of_ble_eq_true rfl, Nat.le_of_ble_eq_true rfl⟩) hS (fun r6_z g5_z H locs hp hW hS => ?_)
    obtain ⟨hf1, hp⟩ := hp
    have hf : Fr g g5_z := hf.trans hf1
    obtain ⟨rfl, hg⟩ := hp
    subst hg
    have b7_z : g 3 0 2 ≤ 8 := hW.2.2.1.le 3 0 2 7 rfl
    refine lv_bipush (v := nI 6) hx hb dX4_addStage_24 (by decide) ?_
    refine n_icmp_ge (tgt := 38) hx hb (Nat.lt_of_le_of_lt b7_z (by decide)) (by decide) dX4_addStage_26 (by decide) (fun c8_z => ?_) (fun c8_z => ?_)
    · exact k_throw (cls := "java/lang/IllegalStateException") (text := "no room for a stage, or not off") M hfl hW hS (by decide +kernel) (by decide +kernel) (by decide +kernel) g_ISE n_ISE w_Cond_classLink_RX4_65__java_lang_IllegalStateException_ w_Cond_initialized__java_lang_IllegalStateException_ s_ISE hl.1 hnt hlocks (Or.inr ⟨rfl, ⟨i, hi, rfl⟩, Or.inl (Nat.not_lt.mpr c8_z)⟩) dX4_addStage_38 dX4_addStage_41 dX4_addStage_42 dX4_addStage_44 dX4_addStage_47 (Nat.le_of_ble_eq_true rfl) (Nat.le_of_ble_eq_true rfl) (Nat.le_of_ble_eq_true rfl) (Nat.le_of_ble_eq_true rfl) (Nat.le_of_ble_eq_true rfl) (Nat.le_of_ble_eq_true rfl)
    · refine lv_aload_n hx hb dX4_addStage_29 rfl (lv_at hl 0 rfl) ?_
      have b9_z : g 0 0 6 ≤ 127 := hW.2.2.1.le 0 0 6 126 rfl
      refine r_get M hW 0 0 (lv0 _) (v := .int (nI (g 0 0 6))) rfl rfl i_X4 6 (by decide) k_36 (fun _ h9 => h9) rfl dX4_addStage_30 ?_
      refine lv_bipush (v := nI 111) hx hb dX4_addStage_33 (by decide) ?_
      refine n_icmp_eq (tgt := 48) hx hb (Nat.lt_of_le_of_lt b9_z (by decide)) (by decide) dX4_addStage_35 (by decide) (fun c10_z => ?_) (fun c10_z => ?_)
      · refine lv_aload_n hx hb dX4_addStage_48 rfl (lv_at hl 0 rfl) ?_
        refine r_get M hW 0 0 (lv0 _) (v := .ref (ad 3 0)) rfl rfl i_X4 1 (by decide) k_16 (fun _ h9 => h9) rfl dX4_addStage_49 ?_
        refine r_new (C := RX3) (T := TX3) (N := 4) (ci := 6) (fs := [.int (nI 0), .null, .int (nI 0), .int (nI 0)]) M hW hS i_X3 tyX3 tyX3_ok w_Cond_classLink_RX4_70_RX3 w_Cond_instantiable_RX3_4 w_Cond_initialized_RX3 rfl (fun j hj => by rcases (show j = 0 ∨ j = 1 ∨ j = 2 ∨ j = 3 by omega) with rfl | rfl | rfl | rfl <;> rfl) (Nat.le_of_ble_eq_true rfl) (Nat.le_of_ble_eq_true rfl) dX4_addStage_52 (fun q H hq hR hW hS => ?_)
        refine lv_dup hx hb dX4_addStage_55 rfl ?_
        refine lv_iload_n hx hb dX4_addStage_56 rfl (lv_at hl 1 rfl) ?_
        refine k_mk (As := [.int (nI (i))]) (rest := [.ref q, .ref (ad 3 0)]) M hW hS hq hR (c_X3_init l D Z N0 q H.size i) (cwI 1 hts gX4_addStage_X3_init rfl rfl rfl (hts _ w_Cond_initialized_RX3) (hts _ w_Cond_methodLink_RX4_72_yX3_init) (hts _ w_Cond_instanceMethod_yX3_init) rfl (by decide +kernel) ⟨(Nat.le_of_ble_eq_true rfl), (Nat.le_of_ble_eq_true rfl)⟩) rfl hl.1 rfl (Nat.le_of_ble_eq_true rfl) dX4_addStage_57 ⟨(Nat.le_of_ble_eq_true rfl), (Nat.le_of_ble_eq_true rfl)⟩ (fun ws1 H locs hp hP hD hW hS => ?_)
        obtain ⟨q1, rfl⟩ := hp
        have hW := hW.addS (n := g 3 0 2) (r := i) (hIv.1 0 (by decide)) (by omega) (hIv.2.1 0 _ (by decide) (Nat.le_refl _)) (by omega) hP hD
        obtain ⟨adx, hadx⟩ : ∃ z, z = ad2 (ad2 ad 10 (g 3 0 2) q) 11 (g 3 0 2) q1 := ⟨_, rfl⟩
        obtain ⟨gA, hgA⟩ : ∃ z, z = stG g (g 3 0 2) i := ⟨_, rfl⟩
        rw [← hadx, ← hgA] at hW
        have eA : ∀ a b, ¬ ((a = 10 ∨ a = 11) ∧ b = (g 3 0 2)) → ad a b = adx a b := fun a b h => by rw [hadx, ad2_n _ _ _ _ (fun e => h ⟨Or.inr e.1, e.2⟩), ad2_n _ _ _ _ (fun e => h ⟨Or.inl e.1, e.2⟩)]
        have e0 : ad 0 0 = adx 0 0 := eA 0 0 (by omega)
        have eq9 : q = adx 10 (g 3 0 2) := by rw [hadx, ad2_n _ _ _ _ (by omega), ad2_s]
        rw [e0] at hl
        have e3 : ad 3 0 = adx 3 0 := eA 3 0 (by omega)
        refine W.eq (g2 := F0 mP 60 ls [.ref (adx 10 (g 3 0 2)), .ref (adx 3 0)]) (by rw [← eq9, ← e3]) ?_
        have zs2 : gA 3 0 2 = g 3 0 2 := by rw [hgA]; exact stG_o (by omega) (by omega)
        have zs3 : gA 3 0 3 = g 3 0 2 + 1 := by rw [hgA]; unfold stG; rw [if_neg (by omega), if_neg (by omega), if_pos ⟨rfl, rfl, rfl⟩]
        have zs4 : ∀ x, g 3 0 2 ≤ x → gA 4 0 x = 0 := fun x hx => by rw [hgA, stG_o (by omega) (by omega)]; exact hIv.2.1 0 x (by decide) hx
        have hf : Fr gA gA := Fr.rf _
        refine k_cAi (k_rV (As := [.ref (adx 10 (g 3 0 2))]) (rest := []) M hW hS (c_Jx4a65c_add_9ea2d l D Z N0 gA adx 0 (g 3 0 2) (by decide) zs2 (by omega) (by rw [zs3]; exact Nat.lt_succ_self _) zs4) (cwV 1 hts gX4_addStage_Jx4a65c_add_9ea2d rfl rfl rfl (by decide +kernel) ⟨(Nat.le_of_ble_eq_true rfl), (Nat.le_of_ble_eq_true rfl)⟩) (r_recv M.2 hW 3 0 (show (0 : Nat) < 2 by decide) rfl rfl) rfl hl.1 rfl (Nat.le_of_ble_eq_true rfl) dX4_addStage_60 ⟨(Nat.le_of_ble_eq_true rfl), (Nat.le_of_ble_eq_true rfl)⟩) hS (fun r12_z g11_z ad13_z H locs hp hW hS => ?_)
        have hf : Fr g11_z g11_z := Fr.rf _
        obtain ⟨hr1, hg2, eB⟩ := hp
        have e0 : adx 0 0 = ad13_z 0 0 := (eB 0 0 (by omega)).symm
        rw [e0] at hl
        have zn : g11_z 3 0 2 = g 3 0 2 + 1 := by rw [hg2]; unfold addG; rw [up_at, if_pos ⟨rfl, rfl, rfl⟩]
        have hAS : AdS ad ad13_z := fun a b h => (eB a b (by omega)).trans (eA a b (by omega)).symm
        refine lv_pop hx hb dX4_addStage_63 rfl ?_
        refine lv_aload_n hx hb dX4_addStage_64 rfl (lv_at hl 0 rfl) ?_
        refine r_get M hW 0 0 (lv0 _) (v := .ref (ad13_z 3 0)) rfl rfl i_X4 1 (by decide) k_16 (fun _ h9 => h9) rfl dX4_addStage_65 ?_
        refine k_ci (k_rV (As := []) (rest := []) M hW hS (c_Jx4a65c_size_8abf5 l D Z N0 g11_z ad13_z 0 (by decide)) (cwV 0 hts gX4_addStage_Jx4a65c_size_8abf5 rfl rfl rfl (by decide +kernel) ⟨Nat.le_of_ble_eq_true rfl, Nat.le_of_ble_eq_true rfl⟩) (r_recv M.2 hW 3 0 (show (0 : Nat) < 2 by decide) rfl rfl) rfl hl.1 rfl (Nat.le_of_ble_eq_true rfl) dX4_addStage_68 ⟨Nat.le_of_ble_eq_true rfl, Nat.le_of_ble_eq_true rfl⟩) hS (fun r15_z g14_z H locs hp hW hS => ?_)
        obtain ⟨hf1, hp⟩ := hp
        have hf : Fr g11_z g14_z := hf.trans hf1
        obtain ⟨rfl, hg⟩ := hp
        subst hg
        have b16_z : g11_z 3 0 2 ≤ 8 := hW.2.2.1.le 3 0 2 7 rfl
        refine lv_iconst (v := nI 1) hx hb dX4_addStage_71 (by decide) ?_
        refine n_isub hx hb (by omega) dX4_addStage_72 ?_
        refine vx_ret ?_
        refine W.widen (k := 3) (n := 16) (Nat.le_of_ble_eq_true rfl) (Nat.le_of_ble_eq_true rfl) ?_
        -- path 1
        exact W.iret (v := nI ((g11_z 3 0 2) - 1)) hx hb hr (fun t ht hW9 => ⟨⟨nI ((g11_z 3 0 2) - 1), (g11_z, ad13_z), rfl, ⟨i, hi, rfl, by omega, c10_z, congrArg nI (by omega), (by rw [hg2, hgA]; rfl), hAS⟩, (show Wd D Z N0 g11_z ad13_z t.heap by rw [ht]; exact hW)⟩, hS.F ht⟩) hS.2.2 dX4_addStage_73
      · exact k_throw (cls := "java/lang/IllegalStateException") (text := "no room for a stage, or not off") M hfl hW hS (by decide +kernel) (by decide +kernel) (by decide +kernel) g_ISE n_ISE w_Cond_classLink_RX4_65__java_lang_IllegalStateException_ w_Cond_initialized__java_lang_IllegalStateException_ s_ISE hl.1 hnt hlocks (Or.inr ⟨rfl, ⟨i, hi, rfl⟩, Or.inr c10_z⟩) dX4_addStage_38 dX4_addStage_41 dX4_addStage_42 dX4_addStage_44 dX4_addStage_47 (Nat.le_of_ble_eq_true rfl) (Nat.le_of_ble_eq_true rfl) (Nat.le_of_ble_eq_true rfl) (Nat.le_of_ble_eq_true rfl) (Nat.le_of_ble_eq_true rfl) (Nat.le_of_ble_eq_true rfl)
  · refine n_if_ne (tgt := 17) hx hb (by decide) dX4_addStage_4 (by decide) (fun h9 => absurd h9 (by decide)) (fun _ => ?_)
    exact k_throw (cls := "java/lang/IllegalArgumentException") (text := "no such register") M hfl hW hS (by decide +kernel) (by decide +kernel) (by decide +kernel) g_IAE n_IAE w_Cond_classLink_RX4_48__java_lang_IllegalArgumentException_ w_Cond_initialized__java_lang_IllegalArgumentException_ s_IAE hl.1 hnt hlocks (Or.inl ⟨rfl, c3_z⟩) dX4_addStage_7 dX4_addStage_10 dX4_addStage_11 dX4_addStage_13 dX4_addStage_16 (Nat.le_of_ble_eq_true rfl) (Nat.le_of_ble_eq_true rfl) (Nat.le_of_ble_eq_true rfl) (Nat.le_of_ble_eq_true rfl) (Nat.le_of_ble_eq_true rfl) (Nat.le_of_ble_eq_true rfl)

set_option maxHeartbeats 4000000 in
set_option maxRecDepth 100000 in
theorem c_X4_install (l : Launch) (hfl : l.stackTraces = false) (D : va_G) (Z : Nat → Nat) (N0 : Nat) (g : T3) (ad : T2) (x y z u : Int32) (hIv : Iv g) : vx_Met l yX4_install wsX4_install ({ frames := 8, cells := 2, slots := 12, locals := 380 } : Room) (PC D Z N0 g ad [.ref (ad 0 0), .int (x), .int (y), .int (z), .int (u)]) (QA D Z N0 (fun (r : Int32) (g1 : T3) (ad1 : T2) => ∃ i k v q0, i < g 3 0 2 ∧ x = nI i ∧ 1 ≤ k ∧ k ≤ 9 ∧ y = nI k ∧ 1 ≤ v ∧ v ≤ 99 ∧ z = nI v ∧ q0 < 1000 ∧ u = nI q0 ∧ r = nI (pSl g i) ∧ g1 = imG (up g 10 i 2 (pSl g i)) i (pSl g i) k v q0 ∧ AdS ad ad1)) (QX D Z N0 g ad (fun E => (E = "java/lang/IndexOutOfBoundsException" ∧ ¬ Ix (g 3 0 2) x) ∨ (E = "java/lang/IllegalArgumentException" ∧ Ix (g 3 0 2) x ∧ (¬ Bt 9 y ∨ ¬ Bt 99 z ∨ ¬ Ix 1000 u)))) 2 12 (AA N0) := by
  refine vx_ofW (cc := cX4_install) (maxL := 6) (ret := (some .int)) (by decide) rfl ?_
  intro pP eP sP mP args below meth cP s₁ B hmlP hnt hvP
  obtain ⟨rfl, hW, hC⟩ := hvP
  have hx := B.exec
  have hb := B.bytes
  have hr := B.returns
  have hts := atoms_spec (ws := wsX4_install) B.pre
  have hown : sP.vm.findClass RX4 = some mP.cls := findClass_of_methodNamed B.named
  have hlocks := B.notSynchronized
  have i_X0 : ∀ w ∈ wsX00, w ∈ wsX4_install := (fun _ h => List.mem_cons_of_mem _ (List.mem_append_left _ (List.mem_append_left _ (List.mem_append_left _ (List.mem_append_left _ (List.mem_append_left _ (List.mem_append_right _ h)))))))
  have w_Cond_classLink_RX4_85_RX0 : Cond.classLink RX4 85 RX0 ∈ wsX4_install := by decide +kernel
  have w_Cond_instantiable_RX0_4 : Cond.instantiable RX0 4 ∈ wsX4_install := by decide +kernel
  have w_Cond_initialized_RX0 : Cond.initialized RX0 ∈ wsX4_install := by decide +kernel
  have w_Cond_methodLink_RX4_87_yX0_init : Cond.methodLink RX4 87 yX0_init ∈ wsX4_install := by decide +kernel
  have w_Cond_instanceMethod_yX0_init : Cond.instanceMethod yX0_init ∈ wsX4_install := by decide +kernel
  have w_Cond_classLink_RX4_48__java_lang_IllegalArgumentException_ : Cond.classLink RX4 48 "java/lang/IllegalArgumentException" ∈ wsX4_install := by decide +kernel
  have w_Cond_initialized__java_lang_IllegalArgumentException_ : Cond.initialized "java/lang/IllegalArgumentException" ∈ wsX4_install := by decide +kernel
  have s_IAE : ∀ w ∈ (vx_atS RX4 52 "java/lang/IllegalArgumentException" thN).filter goodWord, w ∈ wsX4_install := (fun _ h => List.mem_cons_of_mem _ (List.mem_append_left _ (List.mem_append_right _ h)))
  have M : Mx pP mP cP cX4_install 6 sP ([.ref (ad 0 0), .int (x), .int (y), .int (z), .int (u)] : List Value).toArray wsX4_install RX4 D Z N0 := ⟨⟨hx, hb, hmlP, hown, hts⟩, hC⟩
  have hf : Fr g g := Fr.rf g
  have hS : va_S (AA N0) sP.heap sP.heap [] := va_S.rf
  have hl := lv_entry ([.ref (ad 0 0), .int (x), .int (y), .int (z), .int (u)]) (n := 6) (Nat.le_of_ble_eq_true rfl)
  rw [lg_entry_eq]
  generalize (lg_sl ([.ref (ad 0 0), .int (x), .int (y), .int (z), .int (u)]) ++ List.replicate (6 - (lg_sl ([.ref (ad 0 0), .int (x), .int (y), .int (z), .int (u)])).length) Slot.unset).toArray = ls at hl ⊢
  have hl : lv_has ls 6 [(0, .ref (ad 0 0)), (1, .int (x)), (2, .int (y)), (3, .int (z)), (4, .int (u))] := hl
  refine lv_aload_n hx hb dX4_install_0 rfl (lv_at hl 0 rfl) ?_
  refine lv_iload_n hx hb dX4_install_1 rfl (lv_at hl 1 rfl) ?_
  refine k_xr (k_xV (As := [.int (x)]) (rest := []) M hW hS (c_X4_stageAt l hfl D Z N0 g ad (x)) (cwV 1 hts gX4_install_X4_stageAt rfl rfl rfl (by decide +kernel) ⟨Nat.le_of_ble_eq_true rfl, Nat.le_of_ble_eq_true rfl⟩) (r_recv M.2 hW 0 0 (lv0 _) rfl rfl) rfl hl.1 rfl (Nat.le_of_ble_eq_true rfl) dX4_install_2 ⟨Nat.le_of_ble_eq_true rfl, Nat.le_of_ble_eq_true rfl⟩) hS (fun E ce q9 H locs hp hW hS hq9 => ?_) (fun r2_z g1_z H locs hp hW hS => ?_)
  · exact k_out (Or.inl hp) hW hS hq9 hnt hlocks (Nat.le_of_ble_eq_true rfl) (Nat.le_of_ble_eq_true rfl)
  · obtain ⟨hf1, hp⟩ := hp
    have hf : Fr g g1_z := hf.trans hf1
    obtain ⟨i3_z, hi3_z, hxe, hre, hg⟩ := hp
    subst hg
    subst hxe
    subst hre
    have hli3_z : lv g 10 i3_z := Nat.lt_of_lt_of_le hi3_z (hW.2.2.2 0 (by decide)).1
    refine lv_astore (lv' := [(5, .ref (ad 10 i3_z)), (0, .ref (ad 0 0)), (1, .int (nI (i3_z))), (2, .int (y)), (3, .int (z)), (4, .int (u))]) hx hb dX4_install_5 hl (by decide) rfl (fun ls hl => ?_)
    refine lv_iload_n hx hb dX4_install_7 rfl (lv_at hl 3 rfl) ?_
    refine lv_iconst (v := nI 1) hx hb dX4_install_8 (by decide) ?_
    refine lv_bipush (v := nI 9) hx hb dX4_install_9 (by decide) ?_
    refine k_ci (k_rS (As := [.int (y), .int (nI (1)), .int (nI (9))]) (rest := []) M hW hS (c_X4_isWithin l D Z N0 g ad (y) (nI (1)) (nI (9))) (va_cwS 3 hts gX4_install_X4_isWithin rfl rfl rfl (by decide +kernel) ⟨Nat.le_of_ble_eq_true rfl, Nat.le_of_ble_eq_true rfl⟩) rfl hl.1 rfl (Nat.le_of_ble_eq_true rfl) dX4_install_11 ⟨Nat.le_of_ble_eq_true rfl, Nat.le_of_ble_eq_true rfl⟩) hS (fun r5_z g4_z H locs hp hW hS => ?_)
    obtain ⟨hf1, hp⟩ := hp
    have hf : Fr g g4_z := hf.trans hf1
    obtain ⟨hp, hg⟩ := hp
    subst hg
    rcases hp with ⟨rfl, c6_z⟩ | ⟨rfl, c6_z⟩
    · obtain ⟨k, hk1, hk, rfl⟩ := (bt_iff (n := 9) (by decide)).mp c6_z
      refine n_if_eq (tgt := 39) hx hb (by decide) dX4_install_14 (by decide) (fun h9 => absurd h9 (by decide)) (fun _ => ?_)
      refine lv_iload_n hx hb dX4_install_17 rfl (lv_at hl 4 rfl) ?_
      refine lv_iconst (v := nI 1) hx hb dX4_install_18 (by decide) ?_
      refine lv_bipush (v := nI 99) hx hb dX4_install_19 (by decide) ?_
      refine k_ci (k_rS (As := [.int (z), .int (nI (1)), .int (nI (99))]) (rest := []) M hW hS (c_X4_isWithin l D Z N0 g ad (z) (nI (1)) (nI (99))) (va_cwS 3 hts gX4_install_X4_isWithin rfl rfl rfl (by decide +kernel) ⟨Nat.le_of_ble_eq_true rfl, Nat.le_of_ble_eq_true rfl⟩) rfl hl.1 rfl (Nat.le_of_ble_eq_true rfl) dX4_install_21 ⟨Nat.le_of_ble_eq_true rfl, Nat.le_of_ble_eq_true rfl⟩) hS (fun r9_z g8_z H locs hp hW hS => ?_)
      obtain ⟨hf1, hp⟩ := hp
      have hf : Fr g g8_z := hf.trans hf1
      obtain ⟨hp, hg⟩ := hp
      subst hg
      rcases hp with ⟨rfl, c10_z⟩ | ⟨rfl, c10_z⟩
      · obtain ⟨v, hv1, hv, rfl⟩ := (bt_iff (n := 99) (by decide)).mp c10_z
        refine n_if_eq (tgt := 39) hx hb (by decide) dX4_install_24 (by decide) (fun h9 => absurd h9 (by decide)) (fun _ => ?_)
        refine lv_iload hx hb dX4_install_27 (lv_at hl 5 rfl) ?_
        refine lv_iconst (v := nI 0) hx hb dX4_install_29 (by decide) ?_
        refine lv_sipush (v := nI 999) hx hb dX4_install_30 (by decide) ?_
        refine k_ci (k_rS (As := [.int (u), .int (nI (0)), .int (nI (999))]) (rest := []) M hW hS (c_X4_isWithin l D Z N0 g ad (u) (nI (0)) (nI (999))) (va_cwS 3 hts gX4_install_X4_isWithin rfl rfl rfl (by decide +kernel) ⟨Nat.le_of_ble_eq_true rfl, Nat.le_of_ble_eq_true rfl⟩) rfl hl.1 rfl (Nat.le_of_ble_eq_true rfl) dX4_install_33 ⟨Nat.le_of_ble_eq_true rfl, Nat.le_of_ble_eq_true rfl⟩) hS (fun r13_z g12_z H locs hp hW hS => ?_)
        obtain ⟨hf1, hp⟩ := hp
        have hf : Fr g g12_z := hf.trans hf1
        obtain ⟨hp, hg⟩ := hp
        subst hg
        rcases hp with ⟨rfl, c14_z⟩ | ⟨rfl, c14_z⟩
        · obtain ⟨q0, hq0, rfl⟩ := (ix0_iff (n := 999) (by decide)).mp c14_z
          refine n_if_ne (tgt := 49) hx hb (by decide) dX4_install_36 (by decide) (fun _ => ?_) (fun h9 => absurd h9 (by decide))
          refine lv_aload hx hb dX4_install_49 (lv_at hl 0 rfl) ?_
          refine r_new (C := RX0) (T := TX0) (N := 4) (ci := 3) (fs := [.int (nI 0), .int (nI 0), .int (nI 0), .int (nI 0)]) M hW hS i_X0 tyX0 tyX0_ok w_Cond_classLink_RX4_85_RX0 w_Cond_instantiable_RX0_4 w_Cond_initialized_RX0 rfl (fun j hj => by rcases (show j = 0 ∨ j = 1 ∨ j = 2 ∨ j = 3 by omega) with rfl | rfl | rfl | rfl <;> rfl) (Nat.le_of_ble_eq_true rfl) (Nat.le_of_ble_eq_true rfl) dX4_install_51 (fun q H hq hR hW hS => ?_)
          refine lv_dup hx hb dX4_install_54 rfl ?_
          refine lv_iload_n hx hb dX4_install_55 rfl (lv_at hl 3 rfl) ?_
          refine lv_iload_n hx hb dX4_install_56 rfl (lv_at hl 4 rfl) ?_
          refine lv_iload hx hb dX4_install_57 (lv_at hl 5 rfl) ?_
          refine k_mk (As := [.int (nI (k)), .int (nI (v)), .int (nI (q0))]) (rest := [.ref q, .ref (ad 10 i3_z)]) M hW hS hq hR (c_X0_init l D Z N0 q H.size k v q0) (cwI 3 hts gX4_install_X0_init rfl rfl rfl (hts _ w_Cond_initialized_RX0) (hts _ w_Cond_methodLink_RX4_87_yX0_init) (hts _ w_Cond_instanceMethod_yX0_init) rfl (by decide +kernel) ⟨(Nat.le_of_ble_eq_true rfl), (Nat.le_of_ble_eq_true rfl)⟩) rfl hl.1 rfl (Nat.le_of_ble_eq_true rfl) dX4_install_59 ⟨(Nat.le_of_ble_eq_true rfl), (Nat.le_of_ble_eq_true rfl)⟩ (fun ws1 H locs hp hP hD hW hS => ?_)
          obtain rfl := hp
          have hq := hP 0 _ rfl
          have hR := hD.2 0 _ rfl
          refine k_cAi (va_runV (As := [.ref q]) (rest := []) M.1 (c_X3_put l D Z N0 g ad i3_z q k v q0 hli3_z hIv.2.2 hk hv (Nat.le_of_lt_succ hq0)) (cwV 1 hts gX4_install_X3_put rfl rfl rfl (by decide +kernel) ⟨(Nat.le_of_ble_eq_true rfl), (Nat.le_of_ble_eq_true rfl)⟩) ⟨PI.blind, r_recv M.2 hW 10 i3_z hli3_z rfl rfl, fun U hU hW9 => ⟨rfl, by rw [hU]; exact hW, M.2.mv hS hU hW9, by rw [hU]; exact hq, hR⟩⟩ rfl rfl hl.1 rfl (lv_room (Nat.le_of_ble_eq_true rfl)) dX4_install_62 ⟨(Nat.le_of_ble_eq_true rfl), (Nat.le_of_ble_eq_true rfl)⟩) hS (fun r gN adN H locs hp hW hS => ?_)
          obtain ⟨hr9, hg9, ha9⟩ := hp
          refine vx_ret ?_
          refine W.widen (k := 2) (n := 12) (Nat.le_of_ble_eq_true rfl) (Nat.le_of_ble_eq_true rfl) ?_
          -- path 1
          exact W.iret (v := r) hx hb hr (fun t ht hW9 => ⟨⟨r, (gN, adN), rfl, ⟨i3_z, k, v, q0, hi3_z, rfl, hk1, hk, rfl, hv1, hv, rfl, hq0, rfl, hr9, hg9, ha9⟩, (show Wd D Z N0 gN adN t.heap by rw [ht]; exact hW)⟩, hS.F ht⟩) hS.2.2 dX4_install_65
        · refine n_if_ne (tgt := 49) hx hb (by decide) dX4_install_36 (by decide) (fun h9 => absurd h9 (by decide)) (fun _ => ?_)
          exact k_throw (cls := "java/lang/IllegalArgumentException") (text := "key, version or measure out of range") M hfl hW hS (by decide +kernel) (by decide +kernel) (by decide +kernel) g_IAE n_IAE w_Cond_classLink_RX4_48__java_lang_IllegalArgumentException_ w_Cond_initialized__java_lang_IllegalArgumentException_ s_IAE hl.1 hnt hlocks (Or.inr ⟨rfl, ⟨i3_z, hi3_z, rfl⟩, Or.inr (Or.inr (fun h => c14_z ((ix0_iff (n := 999) (by decide)).mpr h)))⟩) dX4_install_39 dX4_install_42 dX4_install_43 dX4_install_45 dX4_install_48 (Nat.le_of_ble_eq_true rfl) (Nat.le_of_ble_eq_true rfl) (Nat.le_of_ble_eq_true rfl) (Nat.le_of_ble_eq_true rfl) (Nat.le_of_ble_eq_true rfl) (Nat.le_of_ble_eq_true rfl)
      · refine n_if_eq (tgt := 39) hx hb (by decide) dX4_install_24 (by decide) (fun _ => ?_) (fun h9 => absurd h9 (by decide))
        exact k_throw (cls := "java/lang/IllegalArgumentException") (text := "key, version or measure out of range") M hfl hW hS (by decide +kernel) (by decide +kernel) (by decide +kernel) g_IAE n_IAE w_Cond_classLink_RX4_48__java_lang_IllegalArgumentException_ w_Cond_initialized__java_lang_IllegalArgumentException_ s_IAE hl.1 hnt hlocks (Or.inr ⟨rfl, ⟨i3_z, hi3_z, rfl⟩, Or.inr (Or.inl (fun h => c10_z ((bt_iff (n := 99) (by decide)).mpr h)))⟩) dX4_install_39 dX4_install_42 dX4_install_43 dX4_install_45 dX4_install_48 (Nat.le_of_ble_eq_true rfl) (Nat.le_of_ble_eq_true rfl) (Nat.le_of_ble_eq_true rfl) (Nat.le_of_ble_eq_true rfl) (Nat.le_of_ble_eq_true rfl) (Nat.le_of_ble_eq_true rfl)
    · refine n_if_eq (tgt := 39) hx hb (by decide) dX4_install_14 (by decide) (fun _ => ?_) (fun h9 => absurd h9 (by decide))
      exact k_throw (cls := "java/lang/IllegalArgumentException") (text := "key, version or measure out of range") M hfl hW hS (by decide +kernel) (by decide +kernel) (by decide +kernel) g_IAE n_IAE w_Cond_classLink_RX4_48__java_lang_IllegalArgumentException_ w_Cond_initialized__java_lang_IllegalArgumentException_ s_IAE hl.1 hnt hlocks (Or.inr ⟨rfl, ⟨i3_z, hi3_z, rfl⟩, Or.inl (fun h => c6_z ((bt_iff (n := 9) (by decide)).mpr h))⟩) dX4_install_39 dX4_install_42 dX4_install_43 dX4_install_45 dX4_install_48 (Nat.le_of_ble_eq_true rfl) (Nat.le_of_ble_eq_true rfl) (Nat.le_of_ble_eq_true rfl) (Nat.le_of_ble_eq_true rfl) (Nat.le_of_ble_eq_true rfl) (Nat.le_of_ble_eq_true rfl)

set_option maxHeartbeats 4000000 in
set_option maxRecDepth 100000 in
theorem c_X4_seal (l : Launch) (hfl : l.stackTraces = false) (D : va_G) (Z : Nat → Nat) (N0 : Nat) (g : T3) (ad : T2) (x y : Int32) (hIv : Iv g) : vx_Met l yX4_seal wsX4_seal ({ frames := 7, cells := 3, slots := 16, locals := 340 } : Room) (PC D Z N0 g ad [.ref (ad 0 0), .int (x), .int (y)]) (QA D Z N0 (fun (r : Int32) (g1 : T3) (ad1 : T2) => ∃ a b, 1 ≤ a ∧ a ≤ 7 ∧ x = nI a ∧ 1 ≤ b ∧ b ≤ 5 ∧ y = nI b ∧ g 0 0 6 = 114 ∧ g 3 1 2 < 8 ∧ r = nI (g 3 1 2) ∧ g1 = slG g a b ∧ AdS ad ad1)) (QX D Z N0 g ad (fun E => (E = "java/lang/IllegalArgumentException" ∧ (¬ Bt 7 x ∨ ¬ Bt 5 y)) ∨ (E = "java/lang/IllegalStateException" ∧ Bt 7 x ∧ Bt 5 y ∧ (¬ g 0 0 6 = 114 ∨ ¬ g 3 1 2 < 8)))) 3 16 (AA N0) := by
  refine vx_ofW (cc := cX4_seal) (maxL := 4) (ret := (some .int)) (by decide) rfl ?_
  intro pP eP sP mP args below meth cP s₁ B hmlP hnt hvP
  obtain ⟨rfl, hW, hC⟩ := hvP
  have hx := B.exec
  have hb := B.bytes
  have hr := B.returns
  have hts := atoms_spec (ws := wsX4_seal) B.pre
  have hown : sP.vm.findClass RX4 = some mP.cls := findClass_of_methodNamed B.named
  have hlocks := B.notSynchronized
  have i_X4 : ∀ w ∈ wsX40, w ∈ wsX4_seal := (fun _ h => List.mem_cons_of_mem _ (List.mem_append_left _ (List.mem_append_left _ (List.mem_append_left _ (List.mem_append_left _ (List.mem_append_left _ (List.mem_append_left _ (List.mem_append_right _ h))))))))
  have k_36 : Cond.fieldLink RX4 36 "StartChain" "state" "C" ∈ wsX4_seal := by decide +kernel
  have w_Cond_classLink_RX4_65__java_lang_IllegalStateException_ : Cond.classLink RX4 65 "java/lang/IllegalStateException" ∈ wsX4_seal := by decide +kernel
  have w_Cond_initialized__java_lang_IllegalStateException_ : Cond.initialized "java/lang/IllegalStateException" ∈ wsX4_seal := by decide +kernel
  have s_ISE : ∀ w ∈ (vx_atS RX4 69 "java/lang/IllegalStateException" thN).filter goodWord, w ∈ wsX4_seal := (fun _ h => List.mem_cons_of_mem _ (List.mem_append_left _ (List.mem_append_right _ h)))
  have k_20 : Cond.fieldLink RX4 20 "StartChain" "secrets" "Ljava/util/ArrayList;" ∈ wsX4_seal := by decide +kernel
  have i_X2 : ∀ w ∈ wsX20, w ∈ wsX4_seal := (fun _ h => List.mem_cons_of_mem _ (List.mem_append_left _ (List.mem_append_left _ (List.mem_append_left _ (List.mem_append_left _ (List.mem_append_left _ (List.mem_append_right _ h)))))))
  have w_Cond_classLink_RX4_189_RX2 : Cond.classLink RX4 189 RX2 ∈ wsX4_seal := by decide +kernel
  have w_Cond_instantiable_RX2_3 : Cond.instantiable RX2 3 ∈ wsX4_seal := by decide +kernel
  have w_Cond_initialized_RX2 : Cond.initialized RX2 ∈ wsX4_seal := by decide +kernel
  have w_Cond_methodLink_RX4_191_yX2_init : Cond.methodLink RX4 191 yX2_init ∈ wsX4_seal := by decide +kernel
  have w_Cond_instanceMethod_yX2_init : Cond.instanceMethod yX2_init ∈ wsX4_seal := by decide +kernel
  have k_29 : Cond.fieldLink RX4 29 "StartChain" "lastStart" "LStartChain$Pass;" ∈ wsX4_seal := by decide +kernel
  have i_X1 : ∀ w ∈ wsX10, w ∈ wsX4_seal := (fun _ h => List.mem_cons_of_mem _ (List.mem_append_left _ (List.mem_append_left _ (List.mem_append_left _ (List.mem_append_left _ (List.mem_append_right _ h))))))
  have k_168 : Cond.fieldLink RX4 168 "StartChain$Pass" "registers" "[I" ∈ wsX4_seal := by decide +kernel
  have w_Cond_classLink_RX4_48__java_lang_IllegalArgumentException_ : Cond.classLink RX4 48 "java/lang/IllegalArgumentException" ∈ wsX4_seal := by decide +kernel
  have w_Cond_initialized__java_lang_IllegalArgumentException_ : Cond.initialized "java/lang/IllegalArgumentException" ∈ wsX4_seal := by decide +kernel
  have s_IAE : ∀ w ∈ (vx_atS RX4 52 "java/lang/IllegalArgumentException" thN).filter goodWord, w ∈ wsX4_seal := (fun _ h => List.mem_cons_of_mem _ (List.mem_append_left _ (List.mem_append_left _ (List.mem_append_right _ h))))
  have M : Mx pP mP cP cX4_seal 4 sP ([.ref (ad 0 0), .int (x), .int (y)] : List Value).toArray wsX4_seal RX4 D Z N0 := ⟨⟨hx, hb, hmlP, hown, hts⟩, hC⟩
  have hf : Fr g g := Fr.rf g
  have hS : va_S (AA N0) sP.heap sP.heap [] := va_S.rf
  have hl := lv_entry ([.ref (ad 0 0), .int (x), .int (y)]) (n := 4) (Nat.le_of_ble_eq_true rfl)
  rw [lg_entry_eq]
  generalize (lg_sl ([.ref (ad 0 0), .int (x), .int (y)]) ++ List.replicate (4 - (lg_sl ([.ref (ad 0 0), .int (x), .int (y)])).length) Slot.unset).toArray = ls at hl ⊢
  have hl : lv_has ls 4 [(0, .ref (ad 0 0)), (1, .int (x)), (2, .int (y))] := hl
  refine lv_iload_n hx hb dX4_seal_0 rfl (lv_at hl 1 rfl) ?_
  refine lv_iconst (v := nI 1) hx hb dX4_seal_1 (by decide) ?_
  refine lv_bipush (v := nI 7) hx hb dX4_seal_2 (by decide) ?_
  refine k_ci (k_rS (As := [.int (x), .int (nI (1)), .int (nI (7))]) (rest := []) M hW hS (c_X4_isWithin l D Z N0 g ad (x) (nI (1)) (nI (7))) (va_cwS 3 hts gX4_seal_X4_isWithin rfl rfl rfl (by decide +kernel) ⟨Nat.le_of_ble_eq_true rfl, Nat.le_of_ble_eq_true rfl⟩) rfl hl.1 rfl (Nat.le_of_ble_eq_true rfl) dX4_seal_4 ⟨Nat.le_of_ble_eq_true rfl, Nat.le_of_ble_eq_true rfl⟩) hS (fun r2_z g1_z H locs hp hW hS => ?_)
  obtain ⟨hf1, hp⟩ := hp
  have hf : Fr g g1_z := hf.trans hf1
  obtain ⟨hp, hg⟩ := hp
  subst hg
  rcases hp with ⟨rfl, c3_z⟩ | ⟨rfl, c3_z⟩
  · obtain ⟨a, ha1, ha, rfl⟩ := (bt_iff (n := 7) (by decide)).mp c3_z
    refine n_if_eq (tgt := 19) hx hb (by decide) dX4_seal_7 (by decide) (fun h9 => absurd h9 (by decide)) (fun _ => ?_)
    refine lv_iload_n hx hb dX4_seal_10 rfl (lv_at hl 2 rfl) ?_
    refine lv_iconst (v := nI 1) hx hb dX4_seal_11 (by decide) ?_
    refine lv_iconst (v := nI 5) hx hb dX4_seal_12 (by decide) ?_
    refine k_ci (k_rS (As := [.int (y), .int (nI (1)), .int (nI (5))]) (rest := []) M hW hS (c_X4_isWithin l D Z N0 g ad (y) (nI (1)) (nI (5))) (va_cwS 3 hts gX4_seal_X4_isWithin rfl rfl rfl (by decide +kernel) ⟨Nat.le_of_ble_eq_true rfl, Nat.le_of_ble_eq_true rfl⟩) rfl hl.1 rfl (Nat.le_of_ble_eq_true rfl) dX4_seal_13 ⟨Nat.le_of_ble_eq_true rfl, Nat.le_of_ble_eq_true rfl⟩) hS (fun r6_z g5_z H locs hp hW hS => ?_)
    obtain ⟨hf1, hp⟩ := hp
    have hf : Fr g g5_z := hf.trans hf1
    obtain ⟨hp, hg⟩ := hp
    subst hg
    rcases hp with ⟨rfl, c7_z⟩ | ⟨rfl, c7_z⟩
    · obtain ⟨b, hb1, hb9, rfl⟩ := (bt_iff (n := 5) (by decide)).mp c7_z
      refine n_if_ne (tgt := 29) hx hb (by decide) dX4_seal_16 (by decide) (fun _ => ?_) (fun h9 => absurd h9 (by decide))
      refine lv_aload_n hx hb dX4_seal_29 rfl (lv_at hl 0 rfl) ?_
      have b9_z : g 0 0 6 ≤ 127 := hW.2.2.1.le 0 0 6 126 rfl
      refine r_get M hW 0 0 (lv0 _) (v := .int (nI (g 0 0 6))) rfl rfl i_X4 6 (by decide) k_36 (fun _ h9 => h9) rfl dX4_seal_30 ?_
      refine lv_bipush (v := nI 114) hx hb dX4_seal_33 (by decide) ?_
      refine n_icmp_ne (tgt := 50) hx hb (Nat.lt_of_le_of_lt b9_z (by decide)) (by decide) dX4_seal_35 (by decide) (fun c10_z => ?_) (fun c10_z => ?_)
      · exact k_throw (cls := "java/lang/IllegalStateException") (text := "does not run, or no room for a secret") M hfl hW hS (by decide +kernel) (by decide +kernel) (by decide +kernel) g_ISE n_ISE w_Cond_classLink_RX4_65__java_lang_IllegalStateException_ w_Cond_initialized__java_lang_IllegalStateException_ s_ISE hl.1 hnt hlocks (Or.inr ⟨rfl, ⟨a, ha1, ha, rfl⟩, ⟨b, hb1, hb9, rfl⟩, Or.inl c10_z⟩) dX4_seal_50 dX4_seal_53 dX4_seal_54 dX4_seal_56 dX4_seal_59 (Nat.le_of_ble_eq_true rfl) (Nat.le_of_ble_eq_true rfl) (Nat.le_of_ble_eq_true rfl) (Nat.le_of_ble_eq_true rfl) (Nat.le_of_ble_eq_true rfl) (Nat.le_of_ble_eq_true rfl)
      · refine lv_aload_n hx hb dX4_seal_38 rfl (lv_at hl 0 rfl) ?_
        refine r_get M hW 0 0 (lv0 _) (v := .ref (ad 3 1)) rfl rfl i_X4 2 (by decide) k_20 (fun _ h9 => h9) rfl dX4_seal_39 ?_
        refine k_ci (k_rV (As := []) (rest := []) M hW hS (c_Jx4a65c_size_8abf5 l D Z N0 g ad 1 (by decide)) (cwV 0 hts gX4_seal_Jx4a65c_size_8abf5 rfl rfl rfl (by decide +kernel) ⟨Nat.le_of_ble_eq_true rfl, Nat.le_of_ble_eq_true rfl⟩) (r_recv M.2 hW 3 1 (show (1 : Nat) < 2 by decide) rfl rfl) rfl hl.1 rfl (Nat.le_of_ble_eq_true rfl) dX4_seal_42 ⟨Nat.le_of_ble_eq_true rfl, Nat.le_of_ble_eq_true rfl⟩) hS (fun r12_z g11_z H locs hp hW hS => ?_)
        obtain ⟨hf1, hp⟩ := hp
        have hf : Fr g g11_z := hf.trans hf1
        obtain ⟨rfl, hg⟩ := hp
        subst hg
        have b13_z : g 3 1 2 ≤ 8 := hW.2.2.1.le 3 1 2 7 rfl
        refine lv_bipush (v := nI 8) hx hb dX4_seal_45 (by decide) ?_
        refine n_icmp_lt (tgt := 60) hx hb (Nat.lt_of_le_of_lt b13_z (by decide)) (by decide) dX4_seal_47 (by decide) (fun c14_z => ?_) (fun c14_z => ?_)
        · refine r_new (C := RX2) (T := TX2) (N := 3) (ci := 5) (fs := [.int (nI 0), .int (nI 0), .null]) M hW hS i_X2 tyX2 tyX2_ok w_Cond_classLink_RX4_189_RX2 w_Cond_instantiable_RX2_3 w_Cond_initialized_RX2 rfl (fun j hj => by rcases (show j = 0 ∨ j = 1 ∨ j = 2 by omega) with rfl | rfl | rfl <;> rfl) (Nat.le_of_ble_eq_true rfl) (Nat.le_of_ble_eq_true rfl) dX4_seal_60 (fun q H hq hR hW hS => ?_)
          refine lv_dup hx hb dX4_seal_63 rfl ?_
          refine lv_iload_n hx hb dX4_seal_64 rfl (lv_at hl 1 rfl) ?_
          refine lv_iload_n hx hb dX4_seal_65 rfl (lv_at hl 2 rfl) ?_
          refine k_mk (As := [.int (nI (a)), .int (nI (b))]) (rest := [.ref q]) M hW hS hq hR (c_X2_init l D Z N0 q H.size a b) (cwI 2 hts gX4_seal_X2_init rfl rfl rfl (hts _ w_Cond_initialized_RX2) (hts _ w_Cond_methodLink_RX4_191_yX2_init) (hts _ w_Cond_instanceMethod_yX2_init) rfl (by decide +kernel) ⟨(Nat.le_of_ble_eq_true rfl), (Nat.le_of_ble_eq_true rfl)⟩) rfl hl.1 rfl (Nat.le_of_ble_eq_true rfl) dX4_seal_66 ⟨(Nat.le_of_ble_eq_true rfl), (Nat.le_of_ble_eq_true rfl)⟩ (fun ws1 H locs hp hP hD hW hS => ?_)
          obtain ⟨q1, rfl⟩ := hp
          have hW := hW.addC (n := g 3 1 2) (r := a) (p := b) (hIv.1 1 (by decide)) (by omega) (hIv.2.1 1 _ (by decide) (Nat.le_refl _)) ha hb9 hP hD
          obtain ⟨adx, hadx⟩ : ∃ z, z = ad2 (ad2 ad 13 (g 3 1 2) q) 14 (g 3 1 2) q1 := ⟨_, rfl⟩
          obtain ⟨gA, hgA⟩ : ∃ z, z = scG g (g 3 1 2) a b := ⟨_, rfl⟩
          rw [← hadx, ← hgA] at hW
          have eA : ∀ a b, ¬ ((a = 13 ∨ a = 14) ∧ b = (g 3 1 2)) → ad a b = adx a b := fun a b h => by rw [hadx, ad2_n _ _ _ _ (fun e => h ⟨Or.inr e.1, e.2⟩), ad2_n _ _ _ _ (fun e => h ⟨Or.inl e.1, e.2⟩)]
          have e0 : ad 0 0 = adx 0 0 := eA 0 0 (by omega)
          have eq9 : q = adx 13 (g 3 1 2) := by rw [hadx, ad2_n _ _ _ _ (by omega), ad2_s]
          rw [e0] at hl
          refine W.eq (g2 := F0 mP 69 ls [.ref (adx 13 (g 3 1 2))]) (by rw [← eq9]) ?_
          have zs2 : gA 3 1 2 = g 3 1 2 := by rw [hgA]; exact scG_o (by omega) (by omega)
          have zs3 : gA 3 1 3 = g 3 1 2 + 1 := by rw [hgA]; unfold scG; rw [if_neg (by omega), if_neg (by omega), if_pos ⟨rfl, rfl, rfl⟩]
          have zs4 : ∀ x, g 3 1 2 ≤ x → gA 4 1 x = 0 := fun x hx => by rw [hgA, scG_o (by omega) (by omega)]; exact hIv.2.1 1 x (by decide) hx
          have hl13 : lv gA 13 (g 3 1 2) := by show g 3 1 2 < gA 3 1 3; omega
          have hf : Fr gA gA := Fr.rf _
          refine lv_astore_n (lv' := [(3, .ref (adx 13 (g 3 1 2))), (0, .ref (adx 0 0)), (1, .int (nI (a))), (2, .int (nI (b)))]) hx hb dX4_seal_69 rfl hl (by decide) rfl (fun ls hl => ?_)
          refine lv_aload_n hx hb dX4_seal_70 rfl (lv_at hl 0 rfl) ?_
          refine lv_aload_n hx hb dX4_seal_71 rfl (lv_at hl 1 rfl) ?_
          refine r_get M hW 0 0 (lv0 _) (v := .ref (adx 5 0)) rfl rfl i_X4 4 (by decide) k_29 (fun _ h9 => h9) rfl dX4_seal_72 ?_
          refine r_get M hW 5 0 (show (0 : Nat) < 2 by decide) (v := .ref (adx 6 0)) rfl rfl i_X1 0 (by decide) k_168 (fun _ h9 => h9) rfl dX4_seal_75 ?_
          refine k_ci (k_rV (As := [.ref (adx 6 0)]) (rest := []) M hW hS (c_X2_bindTo l D Z N0 gA adx (g 3 1 2) 0 (hf.lv hl13) (by decide)) (cwV 1 hts gX4_seal_X2_bindTo rfl rfl rfl (by decide +kernel) ⟨Nat.le_of_ble_eq_true rfl, Nat.le_of_ble_eq_true rfl⟩) (r_recv M.2 hW 13 (g 3 1 2) (hf.lv hl13) rfl rfl) rfl hl.1 rfl (Nat.le_of_ble_eq_true rfl) dX4_seal_78 ⟨Nat.le_of_ble_eq_true rfl, Nat.le_of_ble_eq_true rfl⟩) hS (fun r16_z g15_z H locs hp hW hS => ?_)
          obtain ⟨hf1, hp⟩ := hp
          have hf : Fr gA g15_z := hf.trans hf1
          obtain ⟨rfl, eg15_z⟩ := hp
          refine lv_pop hx hb dX4_seal_81 rfl ?_
          have zs2 : g15_z 3 1 2 = g 3 1 2 := (hf.1 1 2 (by decide)).trans zs2
          have zs3 : g15_z 3 1 3 = g 3 1 2 + 1 := (hf.1 1 3 (by decide)).trans zs3
          have zs4 : ∀ x, g 3 1 2 ≤ x → g15_z 4 1 x = 0 := fun x hx => (hf.2.1 1 x).trans (zs4 x hx)
          have hgB : g15_z = bnT gA (g 3 1 2) 0 := eg15_z
          refine lv_aload_n hx hb dX4_seal_82 rfl (lv_at hl 1 rfl) ?_
          refine r_get M hW 0 0 (lv0 _) (v := .ref (adx 3 1)) rfl rfl i_X4 2 (by decide) k_20 (fun _ h9 => h9) rfl dX4_seal_83 ?_
          refine lv_aload_n hx hb dX4_seal_86 rfl (lv_at hl 0 rfl) ?_
          refine k_cAi (k_rV (As := [.ref (adx 13 (g 3 1 2))]) (rest := []) M hW hS (c_Jx4a65c_add_9ea2d l D Z N0 g15_z adx 1 (g 3 1 2) (by decide) zs2 (by omega) (by rw [zs3]; exact Nat.lt_succ_self _) zs4) (cwV 1 hts gX4_seal_Jx4a65c_add_9ea2d rfl rfl rfl (by decide +kernel) ⟨(Nat.le_of_ble_eq_true rfl), (Nat.le_of_ble_eq_true rfl)⟩) (r_recv M.2 hW 3 1 (show (1 : Nat) < 2 by decide) rfl rfl) rfl hl.1 rfl (Nat.le_of_ble_eq_true rfl) dX4_seal_87 ⟨(Nat.le_of_ble_eq_true rfl), (Nat.le_of_ble_eq_true rfl)⟩) hS (fun r18_z g17_z ad19_z H locs hp hW hS => ?_)
          have hf : Fr g17_z g17_z := Fr.rf _
          obtain ⟨hr1, hg2, eB⟩ := hp
          have e0 : adx 0 0 = ad19_z 0 0 := (eB 0 0 (by omega)).symm
          rw [e0] at hl
          have e13 : adx 13 (g 3 1 2) = ad19_z 13 (g 3 1 2) := (eB 13 _ (by omega)).symm
          rw [e13] at hl
          have zn : g17_z 3 1 2 = g 3 1 2 + 1 := by rw [hg2]; unfold addG; rw [up_at, if_pos ⟨rfl, rfl, rfl⟩]
          have hAS : AdS ad ad19_z := fun a b h => (eB a b (by omega)).trans (eA a b (by omega)).symm
          refine lv_pop hx hb dX4_seal_90 rfl ?_
          refine lv_aload_n hx hb dX4_seal_91 rfl (lv_at hl 1 rfl) ?_
          refine r_get M hW 0 0 (lv0 _) (v := .ref (ad19_z 3 1)) rfl rfl i_X4 2 (by decide) k_20 (fun _ h9 => h9) rfl dX4_seal_92 ?_
          refine k_ci (k_rV (As := []) (rest := []) M hW hS (c_Jx4a65c_size_8abf5 l D Z N0 g17_z ad19_z 1 (by decide)) (cwV 0 hts gX4_seal_Jx4a65c_size_8abf5 rfl rfl rfl (by decide +kernel) ⟨Nat.le_of_ble_eq_true rfl, Nat.le_of_ble_eq_true rfl⟩) (r_recv M.2 hW 3 1 (show (1 : Nat) < 2 by decide) rfl rfl) rfl hl.1 rfl (Nat.le_of_ble_eq_true rfl) dX4_seal_95 ⟨Nat.le_of_ble_eq_true rfl, Nat.le_of_ble_eq_true rfl⟩) hS (fun r21_z g20_z H locs hp hW hS => ?_)
          obtain ⟨hf1, hp⟩ := hp
          have hf : Fr g17_z g20_z := hf.trans hf1
          obtain ⟨rfl, hg⟩ := hp
          subst hg
          have b22_z : g17_z 3 1 2 ≤ 8 := hW.2.2.1.le 3 1 2 7 rfl
          refine lv_iconst (v := nI 1) hx hb dX4_seal_98 (by decide) ?_
          refine n_isub hx hb (by omega) dX4_seal_99 ?_
          refine vx_ret ?_
          refine W.widen (k := 3) (n := 16) (Nat.le_of_ble_eq_true rfl) (Nat.le_of_ble_eq_true rfl) ?_
          -- path 1
          exact W.iret (v := nI ((g17_z 3 1 2) - 1)) hx hb hr (fun t ht hW9 => ⟨⟨nI ((g17_z 3 1 2) - 1), (g17_z, ad19_z), rfl, ⟨a, b, ha1, ha, rfl, hb1, hb9, rfl, c10_z, c14_z, congrArg nI (by omega), (by rw [hg2, hgB, hgA]; rfl), hAS⟩, (show Wd D Z N0 g17_z ad19_z t.heap by rw [ht]; exact hW)⟩, hS.F ht⟩) hS.2.2 dX4_seal_100
        · exact k_throw (cls := "java/lang/IllegalStateException") (text := "does not run, or no room for a secret") M hfl hW hS (by decide +kernel) (by decide +kernel) (by decide +kernel) g_ISE n_ISE w_Cond_classLink_RX4_65__java_lang_IllegalStateException_ w_Cond_initialized__java_lang_IllegalStateException_ s_ISE hl.1 hnt hlocks (Or.inr ⟨rfl, ⟨a, ha1, ha, rfl⟩, ⟨b, hb1, hb9, rfl⟩, Or.inr c14_z⟩) dX4_seal_50 dX4_seal_53 dX4_seal_54 dX4_seal_56 dX4_seal_59 (Nat.le_of_ble_eq_true rfl) (Nat.le_of_ble_eq_true rfl) (Nat.le_of_ble_eq_true rfl) (Nat.le_of_ble_eq_true rfl) (Nat.le_of_ble_eq_true rfl) (Nat.le_of_ble_eq_true rfl)
    · refine n_if_ne (tgt := 29) hx hb (by decide) dX4_seal_16 (by decide) (fun h9 => absurd h9 (by decide)) (fun _ => ?_)
      exact k_throw (cls := "java/lang/IllegalArgumentException") (text := "registers or people out of range") M hfl hW hS (by decide +kernel) (by decide +kernel) (by decide +kernel) g_IAE n_IAE w_Cond_classLink_RX4_48__java_lang_IllegalArgumentException_ w_Cond_initialized__java_lang_IllegalArgumentException_ s_IAE hl.1 hnt hlocks (Or.inl ⟨rfl, Or.inr (fun h => c7_z ((bt_iff (n := 5) (by decide)).mpr h))⟩) dX4_seal_19 dX4_seal_22 dX4_seal_23 dX4_seal_25 dX4_seal_28 (Nat.le_of_ble_eq_true rfl) (Nat.le_of_ble_eq_true rfl) (Nat.le_of_ble_eq_true rfl) (Nat.le_of_ble_eq_true rfl) (Nat.le_of_ble_eq_true rfl) (Nat.le_of_ble_eq_true rfl)
  · refine n_if_eq (tgt := 19) hx hb (by decide) dX4_seal_7 (by decide) (fun _ => ?_) (fun h9 => absurd h9 (by decide))
    exact k_throw (cls := "java/lang/IllegalArgumentException") (text := "registers or people out of range") M hfl hW hS (by decide +kernel) (by decide +kernel) (by decide +kernel) g_IAE n_IAE w_Cond_classLink_RX4_48__java_lang_IllegalArgumentException_ w_Cond_initialized__java_lang_IllegalArgumentException_ s_IAE hl.1 hnt hlocks (Or.inl ⟨rfl, Or.inl (fun h => c3_z ((bt_iff (n := 7) (by decide)).mpr h))⟩) dX4_seal_19 dX4_seal_22 dX4_seal_23 dX4_seal_25 dX4_seal_28 (Nat.le_of_ble_eq_true rfl) (Nat.le_of_ble_eq_true rfl) (Nat.le_of_ble_eq_true rfl) (Nat.le_of_ble_eq_true rfl) (Nat.le_of_ble_eq_true rfl) (Nat.le_of_ble_eq_true rfl)
