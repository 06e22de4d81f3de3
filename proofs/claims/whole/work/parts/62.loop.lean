/-! THE CLAIM OUT OF ONE WALK OF THE LAW'S BODY. Your part is whole_start (and what it stands on); all else here is the same for every law, but numbers. -/
def R_law : String := "StartChainLaw"
def lw_P (b : Addr) (xs : List Int32) (args : Array Value) (s : State) : Prop := args = #[.ref b] ∧ s.IntsAt b xs ∧ xs.length ≤ 2560 ∧ (Jvm.Cond.and given_1 narrow_1).before args s = true
/-- what a walk over the start with the record d0 says of its end, said of the start itself -/
theorem lw_closed {s t : State} {o : Outcome} {d0 : Drawn} {L : List Loc} {k n : Nat} (hd0 : s.drawn.sameBut d0 lw_cs) (hv : ∃ v, o = .returned v) (hW : (s.setDrawn d0).WarmedH t.vm) (hs : (s.setDrawn d0).sameButNew ({ t with vm := s.vm } : State) L k n) : State.butDraws s t lw_cs (fun t1 => Framed s o t1 L k n) := by
  have h2 : t.drawn = d0 := congrArg State.drawn hs.1
  refine ⟨⟨hv, hW, State.sameButNew.setDrawn hs s.drawn⟩, ?_, by decide⟩
  rw [h2]
  exact hd0
def lw_Q (_ : Array Value) (s : State) (o : Outcome) (t : State) : Prop := o = .returned (some (.int 1)) ∧ State.butDraws s t lw_cs (fun t1 => Framed s o t1 [] 603072 7219305)
def lw_Z (below : List Frame) (a : Array Value) (s : State) : State → Prop := fun t => ∃ o, t.status = .running ∧ Ended t below o ∧ lw_Q a s o t
/-- the law's own end, with 1 on the stack, nothing written that was there before, its room as the claim has it; d0: the record of draws at this point (at the entry s.drawn: begin with 'refine W.base ?_' and 'have hd0 := Drawn.sameBut.refl s.drawn lw_cs') -/
theorem lw_ret {p : Program} {l : Launch} {e : Env} {s : State} {m : MethodId} {below : List Frame} {meth : Method} {c : Code} {b : Nat} {d0 : Drawn} (hd0 : s.drawn.sameBut d0 lw_cs) (hx : p.tables.exec = Jvm.exec) (hb : c.code = code) (hr : meth.sig.returnType = ret) (hlocks : meth.locks = false) {pc : Nat} {H : Heap} {ls : Array Slot} (hdg : decode code pc = .ok (.ireturn, 1)) : W p l e room_1 (s.setDrawn d0) m #[Value.ref b] below meth c H [] 603072 7219305 (lw_Z below #[Value.ref b] s) (F0 m pc ls [.int 1]) := by
  intro T hT X
  obtain ⟨fs, hret, hrun, hended, hW, hframe⟩ := X.leave (v := some (.int 1)) (hlocks := hlocks) (fun h => by rw [hr] at h; cases h)
  have hmeth' : T.vm.method? m = some meth := X.method'
  refine ⟨T.setFrames fs, ?_, .returned (some (.int 1)), hrun, hended, rfl, lw_closed hd0 ⟨_, rfl⟩ hW hframe⟩
  jvm_step X.here [X.here.top, hx, hb, hdg, hmeth', hr, ret, narrow_b1]
  (try refine ⟨rfl, ?_⟩); (try refine ⟨rfl, ?_⟩)
  first | (intro acts; rw [hret _ acts rfl rfl rfl]) | rw [hret _ _ rfl rfl rfl]
  exact Steps.refl _
/-- what holds at the law's entry: the machine, the code, the tables' words (any of lw_tbl by 'hts w (by decide +kernel)'), the script of L ints xs at the cell b, what the Statement gives of the start (any of its parts by flat_of_before) -/
def lw_At (p : Program) (s : State) (m : MethodId) (meth : Method) (c : Code) (b L : Nat) (xs : Nat → Int32) : Prop :=
  p.tables.exec = Jvm.exec ∧ c.code = code ∧ meth.sig.returnType = ret ∧ c.maxLocals = 9 ∧ s.vm.findClass R_law = some m.cls ∧ (∀ w ∈ lw_tbl, w.before #[Value.ref b] s = true) ∧ va_X b L xs s s.heap ∧ b < s.heap.size ∧ meth.locks = false ∧ (Jvm.Cond.and given_1 narrow_1).before #[Value.ref b] s = true
theorem go_on {L k : Nat} (hL : L ≤ 2560) (hk : 5 * k ≤ L) (c1 : ¬ Int32.ofNat L - nI 5 < nI (5 * k)) : 5 * k + 5 ≤ L := by
  by_cases h5 : 5 ≤ L
  · have c2 : ¬ nI L - nI 5 < nI (5 * k) := c1
    rw [pk_sub h5] at c2
    have c3 : ¬ L - 5 < 5 * k := fun h => c2 ((nI_ltI (by omega) (by omega)).mpr h)
    omega
  · obtain rfl : k = 0 := by omega
    rcases (show L = 0 ∨ L = 1 ∨ L = 2 ∨ L = 3 ∨ L = 4 by omega) with rfl | rfl | rfl | rfl | rfl <;> exact absurd (by decide) c1
theorem law_end {p : Program} {l : Launch} {e : Env} {s : State} {m : MethodId} {below : List Frame} {meth : Method} {c : Code} {b : Nat} (hx : p.tables.exec = Jvm.exec) (hb : c.code = code) (hr : meth.sig.returnType = ret) (hlocks : meth.locks = false) {H : Heap} {locs : List Loc} {ls : Array Slot} {cells slots : Nat} (hS : va_S (AA s.heap.size) s.heap H locs) (hc : cells ≤ 603072) (hs : slots ≤ 7219305) : W p l e room_1 s m #[Value.ref b] below meth c H locs cells slots (lw_Z below #[Value.ref b] s) (F0 m 1803 ls []) := by
  refine lv_iconst (v := 1) hx hb dL_law_1803 (by decide) ?_
  refine va_forget (fun q hq => hS.2.2 q hq) ?_
  refine W.widen (k := 603072) (n := 7219305) hc hs ?_
  exact lw_ret (d0 := s.drawn) (Drawn.sameBut.refl s.drawn lw_cs) hx hb hr hlocks dL_law_1804
set_option maxHeartbeats 4000000 in
set_option maxRecDepth 100000 in
/-- the law's loop: n calls are left at most -/
theorem law_loop {p : Program} {l : Launch} {e : Env} {s : State} {m : MethodId} {below : List Frame} {meth : Method} {c : Code} (hfl : l.stackTraces = false) {b L : Nat} {xs : Nat → Int32} (hL : L ≤ 2560) (C0 : lw_At p s m meth c b L xs) {D : va_G} {Z : Nat → Nat} (M : Mx p m c cL_law 9 s #[Value.ref b] wsL_law RL D Z s.heap.size) : ∀ (n k : Nat) (g : T3) (ad : T2) (H : Heap) (locs : List Loc) (ls : Array Slot) (cells slots : Nat), L ≤ 5 * (k + n) + 4 → 5 * k ≤ L → Rel g → Iv g → Kv g → Wd D Z s.heap.size g ad H → va_S (AA s.heap.size) s.heap H locs → lv_has ls 9 (lvL b ad k) → cells + 4 * n ≤ 603072 → slots + 40 * n ≤ 7219305 → W p l e room_1 s m #[Value.ref b] below meth c H locs cells slots (lw_Z below #[Value.ref b] s) (F0 m 28 ls []) := by
  obtain ⟨hx, hb, hr, hml, hown, -, hX, hbl, hlocks, -⟩ := id C0
  have hbA : ¬ AA s.heap.size b := Nat.not_le.mpr hbl
  intro n
  induction n with
  | zero =>
    intro k g ad H locs ls cells slots hn hk hR hIv hK hW hS hl hc9 hs9
    refine lv_iload hx hb dL_law_28 (lv_at hl 0 rfl) ?_
    refine lv_aload_n hx hb dL_law_30 rfl (lv_at hl 5 rfl) ?_
    refine va_slen hx hb hX hbl hbA hS dL_law_31 ?_
    refine lv_iconst (v := nI 5) hx hb dL_law_32 (by decide) ?_
    refine lv_isub hx hb dL_law_33 ?_
    refine lv_icmp_gt (tgt := 1803) hx hb dL_law_34 (by decide) (fun c1 => ?_) (fun c1 => absurd (go_on hL hk c1) (by omega))
    exact law_end hx hb hr hlocks hS (by omega) (by omega)
  | succ n ih =>
    intro k g ad H locs ls cells slots hn hk hR hIv hK hW hS hl hc9 hs9
    refine lv_iload hx hb dL_law_28 (lv_at hl 0 rfl) ?_
    refine lv_aload_n hx hb dL_law_30 rfl (lv_at hl 5 rfl) ?_
    refine va_slen hx hb hX hbl hbA hS dL_law_31 ?_
    refine lv_iconst (v := nI 5) hx hb dL_law_32 (by decide) ?_
    refine lv_isub hx hb dL_law_33 ?_
    refine lv_icmp_gt (tgt := 1803) hx hb dL_law_34 (by decide) (fun c1 => ?_) (fun c1 => ?_)
    · exact law_end hx hb hr hlocks hS (by omega) (by omega)
    have hk5 := go_on hL hk c1
    refine lv_aload_n hx hb dL_law_37 rfl (lv_at hl 5 rfl) ?_
    refine lv_iload hx hb dL_law_38 (lv_at hl 0 rfl) ?_
    refine r_sld M hX hbl hbA hS (by omega) (by omega) dL_law_40 ?_
    refine lv_bipush (v := nI 31) hx hb dL_law_41 (by decide) ?_
    refine lv_iand hx hb dL_law_43 ?_
    obtain ⟨j, hj, ej⟩ := pk_andE (xs (5 * k)) (m := nI 31) 5 (by decide)
    rw [ej]
    have next : LN p l e s m b below meth c D Z s.heap.size (lw_Z below #[Value.ref b] s) k cells slots := by
      intro g ad H locs ls hR hIv hK hW hS hl
      refine lv_iinc (v := nI (5 * k + 5)) (lv' := [(5, .int (nI (5 * k + 5))), (4, .ref (ad 41 0)), (3, .ref (ad 40 0)), (2, .ref (ad 20 0)), (1, .ref (ad 0 0)), (0, .ref b)]) hx hb dL_law_1797 hl (k := 0) rfl (nI_add _ _) (by decide) rfl (fun ls hl => ?_)
      refine lv_goto (tgt := 28) hx hb dL_law_1800 (by decide) ?_
      exact ih (k + 1) g ad H locs ls _ _ (by omega) (by omega) hR hIv hK hW hS hl (by omega) (by omega)
    have hj : j < 32 := hj
    have hcs : j = 0 ∨ j = 1 ∨ j = 2 ∨ j = 3 ∨ j = 4 ∨ j = 5 ∨ j = 6 ∨ j = 7 ∨ j = 8 ∨ j = 9 ∨ j = 10 ∨ j = 11 ∨ j = 12 ∨ j = 13 ∨ j = 14 ∨ j = 15 ∨ j = 16 ∨ j = 17 ∨ j = 18 ∨ j = 19 ∨ j = 20 ∨ j = 21 ∨ j = 22 ∨ j = 23 ∨ j = 24 ∨ j = 25 ∨ j = 26 ∨ j = 27 ∨ j = 28 ∨ j = 29 ∨ j = 30 ∨ j = 31 := by omega
    rcases hcs with rfl | rfl | rfl | rfl | rfl | rfl | rfl | rfl | rfl | rfl | rfl | rfl | rfl | rfl | rfl | rfl | rfl | rfl | rfl | rfl | rfl | rfl | rfl | rfl | rfl | rfl | rfl | rfl | rfl | rfl | rfl | rfl
    · exact lv_tableIn (off := 128) (tgt := 172) hx hb dL_law_44 (by decide) (by decide) (by decide) (by decide) (lc_setTrusted hfl M hX hbl hbA hL hk5 (by omega) (by omega) hR hIv hK hW hS hl next)
    · exact lv_tableIn (off := 219) (tgt := 263) hx hb dL_law_44 (by decide) (by decide) (by decide) (by decide) (lc_addStage hfl M hX hbl hbA hL hk5 (by omega) (by omega) hR hIv hK hW hS hl next)
    · exact lv_tableIn (off := 275) (tgt := 319) hx hb dL_law_44 (by decide) (by decide) (by decide) (by decide) (lc_install hfl M hX hbl hbA hL hk5 (by omega) (by omega) hR hIv hK hW hS hl next)
    · exact lv_tableIn (off := 367) (tgt := 411) hx hb dL_law_44 (by decide) (by decide) (by decide) (by decide) (lc_setBad hfl M hX hbl hbA hL hk5 (by omega) (by omega) hR hIv hK hW hS hl next)
    · exact lv_tableIn (off := 470) (tgt := 514) hx hb dL_law_44 (by decide) (by decide) (by decide) (by decide) (lc_version hfl M hX hbl hbA hL hk5 (by omega) (by omega) hR hIv hK hW hS hl next)
    · exact lv_tableIn (off := 538) (tgt := 582) hx hb dL_law_44 (by decide) (by decide) (by decide) (by decide) (lc_active hfl M hX hbl hbA hL hk5 (by omega) (by omega) hR hIv hK hW hS hl next)
    · exact lv_tableIn (off := 594) (tgt := 638) hx hb dL_law_44 (by decide) (by decide) (by decide) (by decide) (lc_reason hfl M hX hbl hbA hL hk5 (by omega) (by omega) hR hIv hK hW hS hl next)
    · exact lv_tableIn (off := 662) (tgt := 706) hx hb dL_law_44 (by decide) (by decide) (by decide) (by decide) (lc_counter hfl M hX hbl hbA hL hk5 (by omega) (by omega) hR hIv hK hW hS hl next)
    · exact lv_tableIn (off := 718) (tgt := 762) hx hb dL_law_44 (by decide) (by decide) (by decide) (by decide) (lc_start hfl M hX hbl hbA hL hk5 (by omega) (by omega) hR hIv hK hW hS hl next)
    · exact lv_tableIn (off := 769) (tgt := 813) hx hb dL_law_44 (by decide) (by decide) (by decide) (by decide) (lc_stop hfl M hX hbl hbA hL hk5 (by omega) (by omega) hR hIv hK hW hS hl next)
    · exact lv_tableIn (off := 813) (tgt := 857) hx hb dL_law_44 (by decide) (by decide) (by decide) (by decide) (lc_commit hfl M hX hbl hbA hL hk5 (by omega) (by omega) hR hIv hK hW hS hl next)
    · exact lv_tableIn (off := 857) (tgt := 901) hx hb dL_law_44 (by decide) (by decide) (by decide) (by decide) (lc_state hfl M hX hbl hbA hL hk5 (by omega) (by omega) hR hIv hK hW hS hl next)
    · exact lv_tableIn (off := 870) (tgt := 914) hx hb dL_law_44 (by decide) (by decide) (by decide) (by decide) (lc_runsFrom hfl M hX hbl hbA hL hk5 (by omega) (by omega) hR hIv hK hW hS hl next)
    · exact lv_tableIn (off := 926) (tgt := 970) hx hb dL_law_44 (by decide) (by decide) (by decide) (by decide) (lc_fallbacks hfl M hX hbl hbA hL hk5 (by omega) (by omega) hR hIv hK hW hS hl next)
    · exact lv_tableIn (off := 939) (tgt := 983) hx hb dL_law_44 (by decide) (by decide) (by decide) (by decide) (lc_register hfl M hX hbl hbA hL hk5 (by omega) (by omega) hR hIv hK hW hS hl next)
    · exact lv_tableIn (off := 995) (tgt := 1039) hx hb dL_law_44 (by decide) (by decide) (by decide) (by decide) (lc_registerByLog hfl M hX hbl hbA hL hk5 (by omega) (by omega) hR hIv hK hW hS hl next)
    · exact lv_tableIn (off := 1051) (tgt := 1095) hx hb dL_law_44 (by decide) (by decide) (by decide) (by decide) (lc_forecast hfl M hX hbl hbA hL hk5 (by omega) (by omega) hR hIv hK hW hS hl next)
    · exact lv_tableIn (off := 1107) (tgt := 1151) hx hb dL_law_44 (by decide) (by decide) (by decide) (by decide) (lc_entries hfl M hX hbl hbA hL hk5 (by omega) (by omega) hR hIv hK hW hS hl next)
    · exact lv_tableIn (off := 1120) (tgt := 1164) hx hb dL_law_44 (by decide) (by decide) (by decide) (by decide) (lc_entry hfl M hX hbl hbA hL hk5 (by omega) (by omega) hR hIv hK hW hS hl next)
    · exact lv_tableIn (off := 1176) (tgt := 1220) hx hb dL_law_44 (by decide) (by decide) (by decide) (by decide) (lc_seal hfl M hX hbl hbA hL hk5 (by omega) (by omega) hR hIv hK hW hS hl next)
    · exact lv_tableIn (off := 1244) (tgt := 1288) hx hb dL_law_44 (by decide) (by decide) (by decide) (by decide) (lc_sealAhead hfl M hX hbl hbA hL hk5 (by omega) (by omega) hR hIv hK hW hS hl next)
    · exact lv_tableIn (off := 1300) (tgt := 1344) hx hb dL_law_44 (by decide) (by decide) (by decide) (by decide) (lc_opens hfl M hX hbl hbA hL hk5 (by omega) (by omega) hR hIv hK hW hS hl next)
    · exact lv_tableIn (off := 1363) (tgt := 1407) hx hb dL_law_44 (by decide) (by decide) (by decide) (by decide) (lc_isLost hfl M hX hbl hbA hL hk5 (by omega) (by omega) hR hIv hK hW hS hl next)
    · exact lv_tableIn (off := 1426) (tgt := 1470) hx hb dL_law_44 (by decide) (by decide) (by decide) (by decide) (lc_nextOpen hfl M hX hbl hbA hL hk5 (by omega) (by omega) hR hIv hK hW hS hl next)
    · exact lv_tableIn (off := 1482) (tgt := 1526) hx hb dL_law_44 (by decide) (by decide) (by decide) (by decide) (lc_setAgreed hfl M hX hbl hbA hL hk5 (by omega) (by omega) hR hIv hK hW hS hl next)
    · exact lv_tableIn (off := 1566) (tgt := 1610) hx hb dL_law_44 (by decide) (by decide) (by decide) (by decide) (lc_recover hfl M hX hbl hbA hL hk5 (by omega) (by omega) hR hIv hK hW hS hl next)
    · exact lv_tableIn (off := 1622) (tgt := 1666) hx hb dL_law_44 (by decide) (by decide) (by decide) (by decide) (lc_openShare hfl M hX hbl hbA hL hk5 (by omega) (by omega) hR hIv hK hW hS hl next)
    · exact lv_tableIn (off := 1688) (tgt := 1732) hx hb dL_law_44 (by decide) (by decide) (by decide) (by decide) (lc_meanVersion hfl M hX hbl hbA hL hk5 (by omega) (by omega) hR hIv hK hW hS hl next)
    · refine lv_tableOut (tgt := 1797) hx hb dL_law_44 (Or.inr (by decide)) (by decide) ?_
      refine W.widen (k := cells + 4) (n := slots + 40) (by omega) (by omega) ?_
      exact next g ad _ _ _ hR hIv hK hW hS hl
    · refine lv_tableOut (tgt := 1797) hx hb dL_law_44 (Or.inr (by decide)) (by decide) ?_
      refine W.widen (k := cells + 4) (n := slots + 40) (by omega) (by omega) ?_
      exact next g ad _ _ _ hR hIv hK hW hS hl
    · refine lv_tableOut (tgt := 1797) hx hb dL_law_44 (Or.inr (by decide)) (by decide) ?_
      refine W.widen (k := cells + 4) (n := slots + 40) (by omega) (by omega) ?_
      exact next g ad _ _ _ hR hIv hK hW hS hl
    · refine lv_tableOut (tgt := 1797) hx hb dL_law_44 (Or.inr (by decide)) (by decide) ?_
      refine W.widen (k := cells + 4) (n := slots + 40) (by omega) (by omega) ?_
      exact next g ad _ _ _ hR hIv hK hW hS hl
