/-! THE LAW'S WRAPPERS: a call, its answer in the row, or the number of what it threw. -/
section ROWS13
variable {p : Program} {l : Launch} {e : Env} {R : Room} {s : State} {m : MethodId} {args : Array Value} {below : List Frame} {meth : Method} {c : Code} {H : Heap} {locs : List Loc} {cells slots : Nat} {Q : State → Prop}
variable {cc : ByteArray} {nL mc ms : Nat} {Ts : List Cond} {own : String} {D : va_G} {Z : Nat → Nat} {N0 : Nat} {g : T3} {ad : T2} {pc : Nat} {ls : Array Slot} {rest st0 : List Value}
theorem r_lst (M : Mx p m c cc nL s args Ts own D Z N0) (hW : Wd D Z N0 g ad H) (hS0 : va_S (AA N0) s.heap H locs) {v : Nat} (hdg : decode cc pc = .ok (.lastore, 1))
    (kk : ∀ (H1 : Heap) (locs1 : List Loc), Wd D Z N0 (up g 40 0 0 v) ad H1 → va_S (AA N0) s.heap H1 locs1 → W p l e R s m args below meth c H1 locs1 cells slots Q (F0 m (pc + 1) ls rest)) : W p l e R s m args below meth c H locs cells slots Q (F0 m pc ls (.long (lN v) :: .int (nI 0) :: .ref (ad 40 0) :: rest)) := by
  obtain ⟨⟨hx, hb, hml, hown, hts⟩, hK, -, -⟩ := M
  have hl : lv g 40 0 := ⟨rfl, by decide, by decide⟩
  have hat := (hW.1 40 0 hl).1
  have hA := (hW.1 40 0 hl).2
  refine W.last hx hb hat ((hK.2 4 _ rfl).1 1 (fun q => .long (lN (g 40 0 q)))) (fun q => by cases q) (by show ¬ (nI 0 < 0 ∨ (arrV _ _ _).slots.size ≤ _); rw [arrV_size]; exact (vp_in_nI (n := 0) (N := 1) (by decide) (by decide))) rfl rfl hdg fun H1 e z oq => ?_
  refine kk H1 _ (hW.st (by decide) hl (Or.inl rfl) ?_ oq) (hS0.put z oq hA)
  show H1[ad 40 0]? = some (vp_cell _ _)
  rw [e, nI_clamp (by decide)]
  rw [vp_cell_l, vp_cell_l, arrV_store]
  congr 2
  funext q
  by_cases hq : q = 0
  · subst hq
    simp [updV, upr]
  · simp [updV, upr, hq]
theorem r_dst (M : Mx p m c cc nL s args Ts own D Z N0) (hW : Wd D Z N0 g ad H) (hS0 : va_S (AA N0) s.heap H locs) {v : UInt64} (hdg : decode cc pc = .ok (.dastore, 1))
    (kk : ∀ (H1 : Heap) (locs1 : List Loc), Wd D Z N0 (up g 41 0 0 v.toNat) ad H1 → va_S (AA N0) s.heap H1 locs1 → W p l e R s m args below meth c H1 locs1 cells slots Q (F0 m (pc + 1) ls rest)) : W p l e R s m args below meth c H locs cells slots Q (F0 m pc ls (.double v :: .int (nI 0) :: .ref (ad 41 0) :: rest)) := by
  obtain ⟨⟨hx, hb, hml, hown, hts⟩, hK, -, -⟩ := M
  have hl : lv g 41 0 := ⟨rfl, by decide, by decide⟩
  have hat := (hW.1 41 0 hl).1
  have hA := (hW.1 41 0 hl).2
  refine W.dast hx hb hat ((hK.2 5 _ rfl).1 1 (fun q => .double (UInt64.ofNat (g 41 0 q)))) (fun q => by cases q) (by show ¬ (nI 0 < 0 ∨ (arrV _ _ _).slots.size ≤ _); rw [arrV_size]; exact (vp_in_nI (n := 0) (N := 1) (by decide) (by decide))) rfl rfl hdg fun H1 e z oq => ?_
  refine kk H1 _ (hW.st (by decide) hl (Or.inl rfl) ?_ oq) (hS0.put z oq hA)
  show H1[ad 41 0]? = some (vp_cell _ _)
  rw [e, nI_clamp (by decide)]
  rw [vp_cell_d, vp_cell_d, arrV_store]
  congr 2
  funext q
  by_cases hq : q = 0
  · subst hq
    simp [updV, upr]
  · simp [updV, upr, hq]
theorem k_xf {a : Array Value} {post : UInt32 → T3 → Prop} {px : String → Prop} {ad' : T2} (hr : vx_Run p l e R s m args below meth c H locs cells slots mc ms (F0 m pc ls st0) rest (QF D Z N0 ad' post a) (QX D Z N0 g ad px) (AA N0)) (hS : va_S (AA N0) s.heap H locs)
    (kx : ∀ (E : String) (ce : Cell) (q9 : Addr) (H1 : Heap) (locs1 : List Loc), px E → Wd D Z N0 g ad H1 → va_S (AA N0) s.heap H1 locs1 → (H1[q9]? = some ce ∧ ce.vm = .none ∧ s.vm.findClass E = some ce.cls) → vx_W p l e R s m args below meth c H1 locs1 (cells + mc) (slots + ms) Q (F0 m pc ls rest) q9)
    (kk : ∀ (r : UInt32) (g1 : T3) (H1 : Heap) (locs1 : List Loc), post r g1 → Wd D Z N0 g1 ad' H1 → va_S (AA N0) s.heap H1 locs1 → W p l e R s m args below meth c H1 locs1 (cells + mc) (slots + ms) Q (F0 m (pc + 3) ls (.float r :: rest))) : W p l e R s m args below meth c H locs cells slots Q (F0 m pc ls st0) :=
  vx_callf hr hS (fun _ _ h => h) (fun _ h => h) (fun _ _ h => h) (fun E ce q9 _ t H1 locs1 ht _ _ hB _ _ hS1 a1 a2 a3 => kx E ce q9 H1 locs1 hB.1 (by rw [← ht]; exact hB.2) hS1 ⟨a1, a2, a3⟩) (fun r u t H1 locs1 ht _ hp hB _ _ hS1 => kk r u H1 locs1 hp (by rw [← ht]; exact hB) hS1)
theorem k_xd {a : Array Value} {post : UInt64 → T3 → Prop} {px : String → Prop} {ad' : T2} (hr : vx_Run p l e R s m args below meth c H locs cells slots mc ms (F0 m pc ls st0) rest (QD D Z N0 ad' post a) (QX D Z N0 g ad px) (AA N0)) (hS : va_S (AA N0) s.heap H locs)
    (kx : ∀ (E : String) (ce : Cell) (q9 : Addr) (H1 : Heap) (locs1 : List Loc), px E → Wd D Z N0 g ad H1 → va_S (AA N0) s.heap H1 locs1 → (H1[q9]? = some ce ∧ ce.vm = .none ∧ s.vm.findClass E = some ce.cls) → vx_W p l e R s m args below meth c H1 locs1 (cells + mc) (slots + ms) Q (F0 m pc ls rest) q9)
    (kk : ∀ (r : UInt64) (g1 : T3) (H1 : Heap) (locs1 : List Loc), post r g1 → Wd D Z N0 g1 ad' H1 → va_S (AA N0) s.heap H1 locs1 → W p l e R s m args below meth c H1 locs1 (cells + mc) (slots + ms) Q (F0 m (pc + 3) ls (.double r :: rest))) : W p l e R s m args below meth c H locs cells slots Q (F0 m pc ls st0) :=
  vx_calld hr hS (fun _ _ h => h) (fun _ h => h) (fun _ _ h => h) (fun E ce q9 _ t H1 locs1 ht _ _ hB _ _ hS1 a1 a2 a3 => kx E ce q9 H1 locs1 hB.1 (by rw [← ht]; exact hB.2) hS1 ⟨a1, a2, a3⟩) (fun r u t H1 locs1 ht _ hp hB _ _ hS1 => kk r u H1 locs1 hp (by rw [← ht]; exact hB) hS1)
theorem ne_fd : ∀ a, a < 9 → ∀ b, b < 9 → ¬ b = 0 → vf_n64 (FP.f2d (FP.fdiv (FP.i2f (nI a)) (FP.i2f (nI b)))) := by
  unfold vf_n64
  decide +kernel
theorem lN_all (x : Int64) : ∃ n, x = lN n := ⟨x.toUInt64.toNat, by unfold lN; simp [Int64.ofNat]⟩
end ROWS13
set_option maxHeartbeats 4000000 in
set_option maxRecDepth 100000 in
theorem c_L_setTrusted (l : Launch) (hfl : l.stackTraces = false) (D : va_G) (Z : Nat → Nat) (N0 : Nat) (g : T3) (ad : T2) (x : Int32) (b : Nat) (hb1 : b ≤ 1) : Met l yL_setTrusted wsL_setTrusted ({ frames := 7, cells := 1, slots := 6, locals := 340 } : Room) (PC D Z N0 g ad [.ref (ad 0 0), .int (x), .int (nI (b)), .ref (ad 40 0)]) (QI D Z N0 ad (fun (r : Int32) (g1 : T3) => Fr g g1 ∧ ((r = nI 0 ∧ ∃ r9 g2, (∃ j, 1 ≤ j ∧ j ≤ 9 ∧ x = nI j ∧ r9 = nI (g 1 0 j) ∧ g2 = up g 1 0 j b) ∧ g1 = up g2 40 0 0 (if r9 = 0 then 0 else 1)) ∨ (r = nI 1 ∧ g = g1 ∧ (¬ Bt 9 x))))) 1 6 (AA N0) := by
  refine va_MetW (cc := cL_setTrusted) (maxL := 5) (ret := (some .int)) (by decide) rfl ?_
  intro pP eP sP mP args below meth cP s₁ B hmlP hvP
  obtain ⟨rfl, hW, hC⟩ := hvP
  have hx := B.exec
  have hb := B.bytes
  have hr := B.returns
  have hts := atoms_spec (ws := wsL_setTrusted) B.pre
  have hown : sP.vm.findClass RL = some mP.cls := findClass_of_methodNamed B.named
  have hlocks := B.notSynchronized
  have w_Cond_classLink_RL_13__java_lang_IllegalArgumentException_ : Cond.classLink RL 13 "java/lang/IllegalArgumentException" ∈ wsL_setTrusted := by decide +kernel
  have M : Mx pP mP cP cL_setTrusted 5 sP ([.ref (ad 0 0), .int (x), .int (nI (b)), .ref (ad 40 0)] : List Value).toArray wsL_setTrusted RL D Z N0 := ⟨⟨hx, hb, hmlP, hown, hts⟩, hC⟩
  have hf : Fr g g := Fr.rf g
  have hS : va_S (AA N0) sP.heap sP.heap [] := va_S.rf
  have hl := lv_entry ([.ref (ad 0 0), .int (x), .int (nI (b)), .ref (ad 40 0)]) (n := 5) (Nat.le_of_ble_eq_true rfl)
  rw [lg_entry_eq]
  generalize (lg_sl ([.ref (ad 0 0), .int (x), .int (nI (b)), .ref (ad 40 0)]) ++ List.replicate (5 - (lg_sl ([.ref (ad 0 0), .int (x), .int (nI (b)), .ref (ad 40 0)])).length) Slot.unset).toArray = ls at hl ⊢
  have hl : lv_has ls 5 [(0, .ref (ad 0 0)), (1, .int (x)), (2, .int (nI (b))), (3, .ref (ad 40 0))] := hl
  have htab : cP.exceptionTable.toList = [(⟨0, 17, 20, 13⟩ : ExceptionTableEntry)] := vx_table (x := yL_setTrusted) B (hts _ (show _ ∈ wsL_setTrusted from List.mem_cons_self))
  have hsc8 := hW.2.2.1.le 3 1 2 7 rfl
  refine lv_aload_n hx hb dL_setTrusted_0 rfl (lv_at hl 3 rfl) ?_
  refine lv_iconst (v := nI 0) hx hb dL_setTrusted_1 (by decide) ?_
  refine lv_aload_n hx hb dL_setTrusted_2 rfl (lv_at hl 0 rfl) ?_
  refine lv_iload_n hx hb dL_setTrusted_3 rfl (lv_at hl 1 rfl) ?_
  refine lv_iload_n hx hb dL_setTrusted_4 rfl (lv_at hl 2 rfl) ?_
  refine k_xi (k_xV (As := [.int (x), .int (nI (b))]) (rest := [.int (nI (0)), .ref (ad 40 0)]) M hW hS (c_X4_setTrusted l hfl D Z N0 g ad x b hb1) (cwV 2 hts gL_setTrusted_X4_setTrusted rfl rfl rfl (by decide +kernel) ⟨Nat.le_of_ble_eq_true rfl, Nat.le_of_ble_eq_true rfl⟩) (r_recv M.2 hW 0 0 (lv0 _) rfl rfl) rfl hl.1 rfl (Nat.le_of_ble_eq_true rfl) dL_setTrusted_5 ⟨Nat.le_of_ble_eq_true rfl, Nat.le_of_ble_eq_true rfl⟩) hS (fun E ce q9 H locs hp hW hS hq9 => ?_) (fun r2_z g1_z H locs hp hW hS => ?_)
  · obtain ⟨rfl, hx9⟩ := hp
    refine vx_catch (own := RL) (name := "java/lang/IllegalArgumentException") hown [] (⟨0, 17, 20, 13⟩ : ExceptionTableEntry) [] htab (fun z h => absurd h (List.not_mem_nil)) (by decide) (by decide) (hts _ w_Cond_classLink_RL_13__java_lang_IllegalArgumentException_) (va_Nw.use rfl (hC.2.2.2.2.1 ("java/lang/IllegalArgumentException", "java/lang/IllegalArgumentException") (by decide))) hq9.1 hq9.2.1 hq9.2.2 ?_
    refine lv_astore (lv' := [(4, .ref q9), (0, .ref (ad 0 0)), (1, .int (x)), (2, .int (nI (b))), (3, .ref (ad 40 0))]) hx hb dL_setTrusted_20 hl (by decide) rfl (fun ls hl => ?_)
    refine lv_iconst (v := nI 1) hx hb dL_setTrusted_22 (by decide) ?_
    refine W.widen (k := 1) (n := 6) (Nat.le_of_ble_eq_true rfl) (Nat.le_of_ble_eq_true rfl) ?_
    -- path 1
    exact W.iret (v := nI (1)) hx hb hr (fun t ht hW9 => ⟨⟨nI (1), g, rfl, ⟨hf, Or.inr (⟨rfl, rfl, hx9⟩)⟩, (show Wd D Z N0 g ad t.heap by rw [ht]; exact hW)⟩, hS.F ht⟩) hS.2.2 dL_setTrusted_23
  · obtain ⟨hf1, hp⟩ := hp
    have hf : Fr g g1_z := hf.trans hf1
    have hp9 := hp
    refine lv_if_eq (tgt := 15) hx hb dL_setTrusted_8 (by decide) (fun c3_z => ?_) (fun c3_z => ?_)
    · refine lv_lconst (v := lN 0) hx hb dL_setTrusted_15 rfl ?_
      refine r_lst M hW hS dL_setTrusted_16 (fun H locs hW hS => ?_)
      obtain ⟨g4_z, eg4_z⟩ : ∃ z, z = up g1_z 40 0 0 0 := ⟨_, rfl⟩
      rw [← eg4_z] at hW
      have hf : Fr g g4_z := by rw [eg4_z]; exact hf.up rfl
      refine lv_goto (tgt := 24) hx hb dL_setTrusted_17 (by decide) ?_
      refine lv_iconst (v := nI 0) hx hb dL_setTrusted_24 (by decide) ?_
      refine W.widen (k := 1) (n := 6) (Nat.le_of_ble_eq_true rfl) (Nat.le_of_ble_eq_true rfl) ?_
      -- path 2
      exact W.iret (v := nI (0)) hx hb hr (fun t ht hW9 => ⟨⟨nI (0), g4_z, rfl, ⟨hf, Or.inl (⟨rfl, r2_z, g1_z, hp9, (by rw [eg4_z, if_pos c3_z])⟩)⟩, (show Wd D Z N0 g4_z ad t.heap by rw [ht]; exact hW)⟩, hS.F ht⟩) hS.2.2 dL_setTrusted_25
    · refine lv_lconst (v := lN 1) hx hb dL_setTrusted_11 rfl ?_
      refine lv_goto (tgt := 16) hx hb dL_setTrusted_12 (by decide) ?_
      refine r_lst M hW hS dL_setTrusted_16 (fun H locs hW hS => ?_)
      obtain ⟨g5_z, eg5_z⟩ : ∃ z, z = up g1_z 40 0 0 1 := ⟨_, rfl⟩
      rw [← eg5_z] at hW
      have hf : Fr g g5_z := by rw [eg5_z]; exact hf.up rfl
      refine lv_goto (tgt := 24) hx hb dL_setTrusted_17 (by decide) ?_
      refine lv_iconst (v := nI 0) hx hb dL_setTrusted_24 (by decide) ?_
      refine W.widen (k := 1) (n := 6) (Nat.le_of_ble_eq_true rfl) (Nat.le_of_ble_eq_true rfl) ?_
      -- path 3
      exact W.iret (v := nI (0)) hx hb hr (fun t ht hW9 => ⟨⟨nI (0), g5_z, rfl, ⟨hf, Or.inl (⟨rfl, r2_z, g1_z, hp9, (by rw [eg5_z, if_neg c3_z])⟩)⟩, (show Wd D Z N0 g5_z ad t.heap by rw [ht]; exact hW)⟩, hS.F ht⟩) hS.2.2 dL_setTrusted_25

set_option maxHeartbeats 4000000 in
set_option maxRecDepth 100000 in
theorem c_L_setBad (l : Launch) (hfl : l.stackTraces = false) (D : va_G) (Z : Nat → Nat) (N0 : Nat) (g : T3) (ad : T2) (x y : Int32) (b : Nat) (hb1 : b ≤ 1) : Met l yL_setBad wsL_setBad ({ frames := 10, cells := 3, slots := 18, locals := 460 } : Room) (PC D Z N0 g ad [.ref (ad 0 0), .int (x), .int (y), .int (nI (b)), .ref (ad 40 0)]) (QI D Z N0 ad (fun (r : Int32) (g1 : T3) => Fr g g1 ∧ ((r = nI 0 ∧ ∃ r9 g2, (∃ i s, i < g 3 0 2 ∧ x = nI i ∧ s < 2 ∧ y = nI s ∧ ¬ g 11 i s = 0 ∧ r9 = nI (g 12 (2 * i + s) 3) ∧ g2 = up g 12 (2 * i + s) 3 b) ∧ g1 = up g2 40 0 0 (if r9 = 0 then 0 else 1)) ∨ (r = nI 1 ∧ g = g1 ∧ ((¬ Ix (g 3 0 2) x ∨ ¬ Ix 2 y))) ∨ (r = nI 2 ∧ g = g1 ∧ (∃ i s, i < g 3 0 2 ∧ x = nI i ∧ s < 2 ∧ y = nI s ∧ g 11 i s = 0))))) 3 18 (AA N0) := by
  refine va_MetW (cc := cL_setBad) (maxL := 6) (ret := (some .int)) (by decide) rfl ?_
  intro pP eP sP mP args below meth cP s₁ B hmlP hvP
  obtain ⟨rfl, hW, hC⟩ := hvP
  have hx := B.exec
  have hb := B.bytes
  have hr := B.returns
  have hts := atoms_spec (ws := wsL_setBad) B.pre
  have hown : sP.vm.findClass RL = some mP.cls := findClass_of_methodNamed B.named
  have hlocks := B.notSynchronized
  have w_Cond_classLink_RL_25__java_lang_IndexOutOfBoundsException_ : Cond.classLink RL 25 "java/lang/IndexOutOfBoundsException" ∈ wsL_setBad := by decide +kernel
  have w_Cond_classLink_RL_31__java_util_NoSuchElementException_ : Cond.classLink RL 31 "java/util/NoSuchElementException" ∈ wsL_setBad := by decide +kernel
  have M : Mx pP mP cP cL_setBad 6 sP ([.ref (ad 0 0), .int (x), .int (y), .int (nI (b)), .ref (ad 40 0)] : List Value).toArray wsL_setBad RL D Z N0 := ⟨⟨hx, hb, hmlP, hown, hts⟩, hC⟩
  have hf : Fr g g := Fr.rf g
  have hS : va_S (AA N0) sP.heap sP.heap [] := va_S.rf
  have hl := lv_entry ([.ref (ad 0 0), .int (x), .int (y), .int (nI (b)), .ref (ad 40 0)]) (n := 6) (Nat.le_of_ble_eq_true rfl)
  rw [lg_entry_eq]
  generalize (lg_sl ([.ref (ad 0 0), .int (x), .int (y), .int (nI (b)), .ref (ad 40 0)]) ++ List.replicate (6 - (lg_sl ([.ref (ad 0 0), .int (x), .int (y), .int (nI (b)), .ref (ad 40 0)])).length) Slot.unset).toArray = ls at hl ⊢
  have hl : lv_has ls 6 [(0, .ref (ad 0 0)), (1, .int (x)), (2, .int (y)), (3, .int (nI (b))), (4, .ref (ad 40 0))] := hl
  have htab : cP.exceptionTable.toList = [(⟨0, 19, 22, 25⟩ : ExceptionTableEntry), (⟨0, 19, 26, 31⟩ : ExceptionTableEntry)] := vx_table (x := yL_setBad) B (hts _ (show _ ∈ wsL_setBad from List.mem_cons_self))
  have hsc8 := hW.2.2.1.le 3 1 2 7 rfl
  refine lv_aload hx hb dL_setBad_0 (lv_at hl 4 rfl) ?_
  refine lv_iconst (v := nI 0) hx hb dL_setBad_2 (by decide) ?_
  refine lv_aload_n hx hb dL_setBad_3 rfl (lv_at hl 0 rfl) ?_
  refine lv_iload_n hx hb dL_setBad_4 rfl (lv_at hl 1 rfl) ?_
  refine lv_iload_n hx hb dL_setBad_5 rfl (lv_at hl 2 rfl) ?_
  refine lv_iload_n hx hb dL_setBad_6 rfl (lv_at hl 3 rfl) ?_
  refine k_xi (k_xV (As := [.int (x), .int (y), .int (nI (b))]) (rest := [.int (nI (0)), .ref (ad 40 0)]) M hW hS (c_X4_setBad l hfl D Z N0 g ad x y b hb1) (cwV 3 hts gL_setBad_X4_setBad rfl rfl rfl (by decide +kernel) ⟨Nat.le_of_ble_eq_true rfl, Nat.le_of_ble_eq_true rfl⟩) (r_recv M.2 hW 0 0 (lv0 _) rfl rfl) rfl hl.1 rfl (Nat.le_of_ble_eq_true rfl) dL_setBad_7 ⟨Nat.le_of_ble_eq_true rfl, Nat.le_of_ble_eq_true rfl⟩) hS (fun E ce q9 H locs hp hW hS hq9 => ?_) (fun r2_z g1_z H locs hp hW hS => ?_)
  · rcases hp with ⟨rfl, hx9⟩ | ⟨rfl, hx9⟩
    · refine vx_catch (own := RL) (name := "java/lang/IndexOutOfBoundsException") hown [] (⟨0, 19, 22, 25⟩ : ExceptionTableEntry) [(⟨0, 19, 26, 31⟩ : ExceptionTableEntry)] htab (fun z h => absurd h (List.not_mem_nil)) (by decide) (by decide) (hts _ w_Cond_classLink_RL_25__java_lang_IndexOutOfBoundsException_) (va_Nw.use rfl (hC.2.2.2.2.1 ("java/lang/IndexOutOfBoundsException", "java/lang/IndexOutOfBoundsException") (by decide))) hq9.1 hq9.2.1 hq9.2.2 ?_
      refine lv_astore (lv' := [(5, .ref q9), (0, .ref (ad 0 0)), (1, .int (x)), (2, .int (y)), (3, .int (nI (b))), (4, .ref (ad 40 0))]) hx hb dL_setBad_22 hl (by decide) rfl (fun ls hl => ?_)
      refine lv_iconst (v := nI 1) hx hb dL_setBad_24 (by decide) ?_
      refine W.widen (k := 3) (n := 18) (Nat.le_of_ble_eq_true rfl) (Nat.le_of_ble_eq_true rfl) ?_
      -- path 1
      exact W.iret (v := nI (1)) hx hb hr (fun t ht hW9 => ⟨⟨nI (1), g, rfl, ⟨hf, Or.inr (Or.inl (⟨rfl, rfl, hx9⟩))⟩, (show Wd D Z N0 g ad t.heap by rw [ht]; exact hW)⟩, hS.F ht⟩) hS.2.2 dL_setBad_25
    · refine vx_catch (own := RL) (name := "java/util/NoSuchElementException") hown [(⟨0, 19, 22, 25⟩ : ExceptionTableEntry)] (⟨0, 19, 26, 31⟩ : ExceptionTableEntry) [] htab (fun z h => (List.mem_cons.mp h).elim (fun h9 => h9 ▸ Or.inr ⟨by decide, "java/lang/IndexOutOfBoundsException", hts _ w_Cond_classLink_RL_25__java_lang_IndexOutOfBoundsException_, hC.2.2.2.2.2.2.1 ("java/util/NoSuchElementException", "java/lang/IndexOutOfBoundsException") (by decide)⟩) (fun h => absurd h (List.not_mem_nil))) (by decide) (by decide) (hts _ w_Cond_classLink_RL_31__java_util_NoSuchElementException_) (va_Nw.use rfl (hC.2.2.2.2.1 ("java/util/NoSuchElementException", "java/util/NoSuchElementException") (by decide))) hq9.1 hq9.2.1 hq9.2.2 ?_
      refine lv_astore (lv' := [(5, .ref q9), (0, .ref (ad 0 0)), (1, .int (x)), (2, .int (y)), (3, .int (nI (b))), (4, .ref (ad 40 0))]) hx hb dL_setBad_26 hl (by decide) rfl (fun ls hl => ?_)
      refine lv_iconst (v := nI 2) hx hb dL_setBad_28 (by decide) ?_
      refine W.widen (k := 3) (n := 18) (Nat.le_of_ble_eq_true rfl) (Nat.le_of_ble_eq_true rfl) ?_
      -- path 2
      exact W.iret (v := nI (2)) hx hb hr (fun t ht hW9 => ⟨⟨nI (2), g, rfl, ⟨hf, Or.inr (Or.inr (⟨rfl, rfl, hx9⟩))⟩, (show Wd D Z N0 g ad t.heap by rw [ht]; exact hW)⟩, hS.F ht⟩) hS.2.2 dL_setBad_29
  · obtain ⟨hf1, hp⟩ := hp
    have hf : Fr g g1_z := hf.trans hf1
    have hp9 := hp
    refine lv_if_eq (tgt := 17) hx hb dL_setBad_10 (by decide) (fun c3_z => ?_) (fun c3_z => ?_)
    · refine lv_lconst (v := lN 0) hx hb dL_setBad_17 rfl ?_
      refine r_lst M hW hS dL_setBad_18 (fun H locs hW hS => ?_)
      obtain ⟨g4_z, eg4_z⟩ : ∃ z, z = up g1_z 40 0 0 0 := ⟨_, rfl⟩
      rw [← eg4_z] at hW
      have hf : Fr g g4_z := by rw [eg4_z]; exact hf.up rfl
      refine lv_goto (tgt := 30) hx hb dL_setBad_19 (by decide) ?_
      refine lv_iconst (v := nI 0) hx hb dL_setBad_30 (by decide) ?_
      refine W.widen (k := 3) (n := 18) (Nat.le_of_ble_eq_true rfl) (Nat.le_of_ble_eq_true rfl) ?_
      -- path 3
      exact W.iret (v := nI (0)) hx hb hr (fun t ht hW9 => ⟨⟨nI (0), g4_z, rfl, ⟨hf, Or.inl (⟨rfl, r2_z, g1_z, hp9, (by rw [eg4_z, if_pos c3_z])⟩)⟩, (show Wd D Z N0 g4_z ad t.heap by rw [ht]; exact hW)⟩, hS.F ht⟩) hS.2.2 dL_setBad_31
    · refine lv_lconst (v := lN 1) hx hb dL_setBad_13 rfl ?_
      refine lv_goto (tgt := 18) hx hb dL_setBad_14 (by decide) ?_
      refine r_lst M hW hS dL_setBad_18 (fun H locs hW hS => ?_)
      obtain ⟨g5_z, eg5_z⟩ : ∃ z, z = up g1_z 40 0 0 1 := ⟨_, rfl⟩
      rw [← eg5_z] at hW
      have hf : Fr g g5_z := by rw [eg5_z]; exact hf.up rfl
      refine lv_goto (tgt := 30) hx hb dL_setBad_19 (by decide) ?_
      refine lv_iconst (v := nI 0) hx hb dL_setBad_30 (by decide) ?_
      refine W.widen (k := 3) (n := 18) (Nat.le_of_ble_eq_true rfl) (Nat.le_of_ble_eq_true rfl) ?_
      -- path 4
      exact W.iret (v := nI (0)) hx hb hr (fun t ht hW9 => ⟨⟨nI (0), g5_z, rfl, ⟨hf, Or.inl (⟨rfl, r2_z, g1_z, hp9, (by rw [eg5_z, if_neg c3_z])⟩)⟩, (show Wd D Z N0 g5_z ad t.heap by rw [ht]; exact hW)⟩, hS.F ht⟩) hS.2.2 dL_setBad_31

set_option maxHeartbeats 4000000 in
set_option maxRecDepth 100000 in
theorem c_L_version (l : Launch) (hfl : l.stackTraces = false) (D : va_G) (Z : Nat → Nat) (N0 : Nat) (g : T3) (ad : T2) (x y : Int32) : Met l yL_version wsL_version ({ frames := 10, cells := 3, slots := 18, locals := 460 } : Room) (PC D Z N0 g ad [.ref (ad 0 0), .int (x), .int (y), .ref (ad 40 0)]) (QI D Z N0 ad (fun (r : Int32) (g1 : T3) => Fr g g1 ∧ ((r = nI 0 ∧ ∃ r9 g2, (∃ i s, i < g 3 0 2 ∧ x = nI i ∧ s < 2 ∧ y = nI s ∧ ¬ g 11 i s = 0 ∧ r9 = nI (g 12 (2 * i + s) 1) ∧ g = g2) ∧ ∃ n9, r9.toInt64 = lN n9 ∧ g1 = up g2 40 0 0 n9) ∨ (r = nI 1 ∧ g = g1 ∧ ((¬ Ix (g 3 0 2) x ∨ ¬ Ix 2 y))) ∨ (r = nI 2 ∧ g = g1 ∧ (∃ i s, i < g 3 0 2 ∧ x = nI i ∧ s < 2 ∧ y = nI s ∧ g 11 i s = 0))))) 3 18 (AA N0) := by
  refine va_MetW (cc := cL_version) (maxL := 5) (ret := (some .int)) (by decide) rfl ?_
  intro pP eP sP mP args below meth cP s₁ B hmlP hvP
  obtain ⟨rfl, hW, hC⟩ := hvP
  have hx := B.exec
  have hb := B.bytes
  have hr := B.returns
  have hts := atoms_spec (ws := wsL_version) B.pre
  have hown : sP.vm.findClass RL = some mP.cls := findClass_of_methodNamed B.named
  have hlocks := B.notSynchronized
  have w_Cond_classLink_RL_25__java_lang_IndexOutOfBoundsException_ : Cond.classLink RL 25 "java/lang/IndexOutOfBoundsException" ∈ wsL_version := by decide +kernel
  have w_Cond_classLink_RL_31__java_util_NoSuchElementException_ : Cond.classLink RL 31 "java/util/NoSuchElementException" ∈ wsL_version := by decide +kernel
  have M : Mx pP mP cP cL_version 5 sP ([.ref (ad 0 0), .int (x), .int (y), .ref (ad 40 0)] : List Value).toArray wsL_version RL D Z N0 := ⟨⟨hx, hb, hmlP, hown, hts⟩, hC⟩
  have hf : Fr g g := Fr.rf g
  have hS : va_S (AA N0) sP.heap sP.heap [] := va_S.rf
  have hl := lv_entry ([.ref (ad 0 0), .int (x), .int (y), .ref (ad 40 0)]) (n := 5) (Nat.le_of_ble_eq_true rfl)
  rw [lg_entry_eq]
  generalize (lg_sl ([.ref (ad 0 0), .int (x), .int (y), .ref (ad 40 0)]) ++ List.replicate (5 - (lg_sl ([.ref (ad 0 0), .int (x), .int (y), .ref (ad 40 0)])).length) Slot.unset).toArray = ls at hl ⊢
  have hl : lv_has ls 5 [(0, .ref (ad 0 0)), (1, .int (x)), (2, .int (y)), (3, .ref (ad 40 0))] := hl
  have htab : cP.exceptionTable.toList = [(⟨0, 10, 13, 25⟩ : ExceptionTableEntry), (⟨0, 10, 17, 31⟩ : ExceptionTableEntry)] := vx_table (x := yL_version) B (hts _ (show _ ∈ wsL_version from List.mem_cons_self))
  have hsc8 := hW.2.2.1.le 3 1 2 7 rfl
  refine lv_aload_n hx hb dL_version_0 rfl (lv_at hl 3 rfl) ?_
  refine lv_iconst (v := nI 0) hx hb dL_version_1 (by decide) ?_
  refine lv_aload_n hx hb dL_version_2 rfl (lv_at hl 0 rfl) ?_
  refine lv_iload_n hx hb dL_version_3 rfl (lv_at hl 1 rfl) ?_
  refine lv_iload_n hx hb dL_version_4 rfl (lv_at hl 2 rfl) ?_
  refine k_xi (k_xV (As := [.int (x), .int (y)]) (rest := [.int (nI (0)), .ref (ad 40 0)]) M hW hS (c_X4_version l hfl D Z N0 g ad x y) (cwV 2 hts gL_version_X4_version rfl rfl rfl (by decide +kernel) ⟨Nat.le_of_ble_eq_true rfl, Nat.le_of_ble_eq_true rfl⟩) (r_recv M.2 hW 0 0 (lv0 _) rfl rfl) rfl hl.1 rfl (Nat.le_of_ble_eq_true rfl) dL_version_5 ⟨Nat.le_of_ble_eq_true rfl, Nat.le_of_ble_eq_true rfl⟩) hS (fun E ce q9 H locs hp hW hS hq9 => ?_) (fun r2_z g1_z H locs hp hW hS => ?_)
  · rcases hp with ⟨rfl, hx9⟩ | ⟨rfl, hx9⟩
    · refine vx_catch (own := RL) (name := "java/lang/IndexOutOfBoundsException") hown [] (⟨0, 10, 13, 25⟩ : ExceptionTableEntry) [(⟨0, 10, 17, 31⟩ : ExceptionTableEntry)] htab (fun z h => absurd h (List.not_mem_nil)) (by decide) (by decide) (hts _ w_Cond_classLink_RL_25__java_lang_IndexOutOfBoundsException_) (va_Nw.use rfl (hC.2.2.2.2.1 ("java/lang/IndexOutOfBoundsException", "java/lang/IndexOutOfBoundsException") (by decide))) hq9.1 hq9.2.1 hq9.2.2 ?_
      refine lv_astore (lv' := [(4, .ref q9), (0, .ref (ad 0 0)), (1, .int (x)), (2, .int (y)), (3, .ref (ad 40 0))]) hx hb dL_version_13 hl (by decide) rfl (fun ls hl => ?_)
      refine lv_iconst (v := nI 1) hx hb dL_version_15 (by decide) ?_
      refine W.widen (k := 3) (n := 18) (Nat.le_of_ble_eq_true rfl) (Nat.le_of_ble_eq_true rfl) ?_
      -- path 1
      exact W.iret (v := nI (1)) hx hb hr (fun t ht hW9 => ⟨⟨nI (1), g, rfl, ⟨hf, Or.inr (Or.inl (⟨rfl, rfl, hx9⟩))⟩, (show Wd D Z N0 g ad t.heap by rw [ht]; exact hW)⟩, hS.F ht⟩) hS.2.2 dL_version_16
    · refine vx_catch (own := RL) (name := "java/util/NoSuchElementException") hown [(⟨0, 10, 13, 25⟩ : ExceptionTableEntry)] (⟨0, 10, 17, 31⟩ : ExceptionTableEntry) [] htab (fun z h => (List.mem_cons.mp h).elim (fun h9 => h9 ▸ Or.inr ⟨by decide, "java/lang/IndexOutOfBoundsException", hts _ w_Cond_classLink_RL_25__java_lang_IndexOutOfBoundsException_, hC.2.2.2.2.2.2.1 ("java/util/NoSuchElementException", "java/lang/IndexOutOfBoundsException") (by decide)⟩) (fun h => absurd h (List.not_mem_nil))) (by decide) (by decide) (hts _ w_Cond_classLink_RL_31__java_util_NoSuchElementException_) (va_Nw.use rfl (hC.2.2.2.2.1 ("java/util/NoSuchElementException", "java/util/NoSuchElementException") (by decide))) hq9.1 hq9.2.1 hq9.2.2 ?_
      refine lv_astore (lv' := [(4, .ref q9), (0, .ref (ad 0 0)), (1, .int (x)), (2, .int (y)), (3, .ref (ad 40 0))]) hx hb dL_version_17 hl (by decide) rfl (fun ls hl => ?_)
      refine lv_iconst (v := nI 2) hx hb dL_version_19 (by decide) ?_
      refine W.widen (k := 3) (n := 18) (Nat.le_of_ble_eq_true rfl) (Nat.le_of_ble_eq_true rfl) ?_
      -- path 2
      exact W.iret (v := nI (2)) hx hb hr (fun t ht hW9 => ⟨⟨nI (2), g, rfl, ⟨hf, Or.inr (Or.inr (⟨rfl, rfl, hx9⟩))⟩, (show Wd D Z N0 g ad t.heap by rw [ht]; exact hW)⟩, hS.F ht⟩) hS.2.2 dL_version_20
  · obtain ⟨hf1, hp⟩ := hp
    have hf : Fr g g1_z := hf.trans hf1
    have hp9 := hp
    obtain ⟨n9, hn9⟩ := lN_all (r2_z).toInt64
    refine lv_i2l hx hb dL_version_8 hn9 ?_
    refine r_lst M hW hS dL_version_9 (fun H locs hW hS => ?_)
    obtain ⟨g3_z, eg3_z⟩ : ∃ z, z = up g1_z 40 0 0 n9 := ⟨_, rfl⟩
    rw [← eg3_z] at hW
    have hf : Fr g g3_z := by rw [eg3_z]; exact hf.up rfl
    refine lv_goto (tgt := 21) hx hb dL_version_10 (by decide) ?_
    refine lv_iconst (v := nI 0) hx hb dL_version_21 (by decide) ?_
    refine W.widen (k := 3) (n := 18) (Nat.le_of_ble_eq_true rfl) (Nat.le_of_ble_eq_true rfl) ?_
    -- path 3
    exact W.iret (v := nI (0)) hx hb hr (fun t ht hW9 => ⟨⟨nI (0), g3_z, rfl, ⟨hf, Or.inl (⟨rfl, r2_z, g1_z, hp9, ⟨n9, hn9, eg3_z⟩⟩)⟩, (show Wd D Z N0 g3_z ad t.heap by rw [ht]; exact hW)⟩, hS.F ht⟩) hS.2.2 dL_version_22

set_option maxHeartbeats 4000000 in
set_option maxRecDepth 100000 in
theorem c_L_active (l : Launch) (hfl : l.stackTraces = false) (D : va_G) (Z : Nat → Nat) (N0 : Nat) (g : T3) (ad : T2) (x : Int32) : Met l yL_active wsL_active ({ frames := 8, cells := 1, slots := 6, locals := 380 } : Room) (PC D Z N0 g ad [.ref (ad 0 0), .int (x), .ref (ad 40 0)]) (QI D Z N0 ad (fun (r : Int32) (g1 : T3) => Fr g g1 ∧ ((r = nI 0 ∧ ∃ r9 g2, (∃ i, i < g 3 0 2 ∧ x = nI i ∧ r9 = nI (g 10 i 2) ∧ g = g2) ∧ ∃ n9, r9.toInt64 = lN n9 ∧ g1 = up g2 40 0 0 n9) ∨ (r = nI 1 ∧ g = g1 ∧ (¬ Ix (g 3 0 2) x))))) 1 6 (AA N0) := by
  refine va_MetW (cc := cL_active) (maxL := 4) (ret := (some .int)) (by decide) rfl ?_
  intro pP eP sP mP args below meth cP s₁ B hmlP hvP
  obtain ⟨rfl, hW, hC⟩ := hvP
  have hx := B.exec
  have hb := B.bytes
  have hr := B.returns
  have hts := atoms_spec (ws := wsL_active) B.pre
  have hown : sP.vm.findClass RL = some mP.cls := findClass_of_methodNamed B.named
  have hlocks := B.notSynchronized
  have w_Cond_classLink_RL_25__java_lang_IndexOutOfBoundsException_ : Cond.classLink RL 25 "java/lang/IndexOutOfBoundsException" ∈ wsL_active := by decide +kernel
  have M : Mx pP mP cP cL_active 4 sP ([.ref (ad 0 0), .int (x), .ref (ad 40 0)] : List Value).toArray wsL_active RL D Z N0 := ⟨⟨hx, hb, hmlP, hown, hts⟩, hC⟩
  have hf : Fr g g := Fr.rf g
  have hS : va_S (AA N0) sP.heap sP.heap [] := va_S.rf
  have hl := lv_entry ([.ref (ad 0 0), .int (x), .ref (ad 40 0)]) (n := 4) (Nat.le_of_ble_eq_true rfl)
  rw [lg_entry_eq]
  generalize (lg_sl ([.ref (ad 0 0), .int (x), .ref (ad 40 0)]) ++ List.replicate (4 - (lg_sl ([.ref (ad 0 0), .int (x), .ref (ad 40 0)])).length) Slot.unset).toArray = ls at hl ⊢
  have hl : lv_has ls 4 [(0, .ref (ad 0 0)), (1, .int (x)), (2, .ref (ad 40 0))] := hl
  have htab : cP.exceptionTable.toList = [(⟨0, 9, 12, 25⟩ : ExceptionTableEntry)] := vx_table (x := yL_active) B (hts _ (show _ ∈ wsL_active from List.mem_cons_self))
  have hsc8 := hW.2.2.1.le 3 1 2 7 rfl
  refine lv_aload_n hx hb dL_active_0 rfl (lv_at hl 2 rfl) ?_
  refine lv_iconst (v := nI 0) hx hb dL_active_1 (by decide) ?_
  refine lv_aload_n hx hb dL_active_2 rfl (lv_at hl 0 rfl) ?_
  refine lv_iload_n hx hb dL_active_3 rfl (lv_at hl 1 rfl) ?_
  refine k_xi (k_xV (As := [.int (x)]) (rest := [.int (nI (0)), .ref (ad 40 0)]) M hW hS (c_X4_active l hfl D Z N0 g ad x) (cwV 1 hts gL_active_X4_active rfl rfl rfl (by decide +kernel) ⟨Nat.le_of_ble_eq_true rfl, Nat.le_of_ble_eq_true rfl⟩) (r_recv M.2 hW 0 0 (lv0 _) rfl rfl) rfl hl.1 rfl (Nat.le_of_ble_eq_true rfl) dL_active_4 ⟨Nat.le_of_ble_eq_true rfl, Nat.le_of_ble_eq_true rfl⟩) hS (fun E ce q9 H locs hp hW hS hq9 => ?_) (fun r2_z g1_z H locs hp hW hS => ?_)
  · obtain ⟨rfl, hx9⟩ := hp
    refine vx_catch (own := RL) (name := "java/lang/IndexOutOfBoundsException") hown [] (⟨0, 9, 12, 25⟩ : ExceptionTableEntry) [] htab (fun z h => absurd h (List.not_mem_nil)) (by decide) (by decide) (hts _ w_Cond_classLink_RL_25__java_lang_IndexOutOfBoundsException_) (va_Nw.use rfl (hC.2.2.2.2.1 ("java/lang/IndexOutOfBoundsException", "java/lang/IndexOutOfBoundsException") (by decide))) hq9.1 hq9.2.1 hq9.2.2 ?_
    refine lv_astore_n (lv' := [(3, .ref q9), (0, .ref (ad 0 0)), (1, .int (x)), (2, .ref (ad 40 0))]) hx hb dL_active_12 rfl hl (by decide) rfl (fun ls hl => ?_)
    refine lv_iconst (v := nI 1) hx hb dL_active_13 (by decide) ?_
    refine W.widen (k := 1) (n := 6) (Nat.le_of_ble_eq_true rfl) (Nat.le_of_ble_eq_true rfl) ?_
    -- path 1
    exact W.iret (v := nI (1)) hx hb hr (fun t ht hW9 => ⟨⟨nI (1), g, rfl, ⟨hf, Or.inr (⟨rfl, rfl, hx9⟩)⟩, (show Wd D Z N0 g ad t.heap by rw [ht]; exact hW)⟩, hS.F ht⟩) hS.2.2 dL_active_14
  · obtain ⟨hf1, hp⟩ := hp
    have hf : Fr g g1_z := hf.trans hf1
    have hp9 := hp
    obtain ⟨n9, hn9⟩ := lN_all (r2_z).toInt64
    refine lv_i2l hx hb dL_active_7 hn9 ?_
    refine r_lst M hW hS dL_active_8 (fun H locs hW hS => ?_)
    obtain ⟨g3_z, eg3_z⟩ : ∃ z, z = up g1_z 40 0 0 n9 := ⟨_, rfl⟩
    rw [← eg3_z] at hW
    have hf : Fr g g3_z := by rw [eg3_z]; exact hf.up rfl
    refine lv_goto (tgt := 15) hx hb dL_active_9 (by decide) ?_
    refine lv_iconst (v := nI 0) hx hb dL_active_15 (by decide) ?_
    refine W.widen (k := 1) (n := 6) (Nat.le_of_ble_eq_true rfl) (Nat.le_of_ble_eq_true rfl) ?_
    -- path 2
    exact W.iret (v := nI (0)) hx hb hr (fun t ht hW9 => ⟨⟨nI (0), g3_z, rfl, ⟨hf, Or.inl (⟨rfl, r2_z, g1_z, hp9, ⟨n9, hn9, eg3_z⟩⟩)⟩, (show Wd D Z N0 g3_z ad t.heap by rw [ht]; exact hW)⟩, hS.F ht⟩) hS.2.2 dL_active_16

set_option maxHeartbeats 4000000 in
set_option maxRecDepth 100000 in
theorem c_L_reason (l : Launch) (hfl : l.stackTraces = false) (D : va_G) (Z : Nat → Nat) (N0 : Nat) (g : T3) (ad : T2) (x y : Int32) : Met l yL_reason wsL_reason ({ frames := 9, cells := 2, slots := 12, locals := 420 } : Room) (PC D Z N0 g ad [.ref (ad 0 0), .int (x), .int (y), .ref (ad 40 0)]) (QI D Z N0 ad (fun (r : Int32) (g1 : T3) => Fr g g1 ∧ ((r = nI 0 ∧ ∃ r9 g2, (∃ i s, i < g 3 0 2 ∧ x = nI i ∧ s < 2 ∧ y = nI s ∧ r9 = nI (jg g i s) ∧ g = g2) ∧ ∃ n9, r9.toInt64 = lN n9 ∧ g1 = up g2 40 0 0 n9) ∨ (r = nI 1 ∧ g = g1 ∧ ((¬ Ix (g 3 0 2) x ∨ ¬ Ix 2 y)))))) 2 12 (AA N0) := by
  refine va_MetW (cc := cL_reason) (maxL := 5) (ret := (some .int)) (by decide) rfl ?_
  intro pP eP sP mP args below meth cP s₁ B hmlP hvP
  obtain ⟨rfl, hW, hC⟩ := hvP
  have hx := B.exec
  have hb := B.bytes
  have hr := B.returns
  have hts := atoms_spec (ws := wsL_reason) B.pre
  have hown : sP.vm.findClass RL = some mP.cls := findClass_of_methodNamed B.named
  have hlocks := B.notSynchronized
  have w_Cond_classLink_RL_25__java_lang_IndexOutOfBoundsException_ : Cond.classLink RL 25 "java/lang/IndexOutOfBoundsException" ∈ wsL_reason := by decide +kernel
  have M : Mx pP mP cP cL_reason 5 sP ([.ref (ad 0 0), .int (x), .int (y), .ref (ad 40 0)] : List Value).toArray wsL_reason RL D Z N0 := ⟨⟨hx, hb, hmlP, hown, hts⟩, hC⟩
  have hf : Fr g g := Fr.rf g
  have hS : va_S (AA N0) sP.heap sP.heap [] := va_S.rf
  have hl := lv_entry ([.ref (ad 0 0), .int (x), .int (y), .ref (ad 40 0)]) (n := 5) (Nat.le_of_ble_eq_true rfl)
  rw [lg_entry_eq]
  generalize (lg_sl ([.ref (ad 0 0), .int (x), .int (y), .ref (ad 40 0)]) ++ List.replicate (5 - (lg_sl ([.ref (ad 0 0), .int (x), .int (y), .ref (ad 40 0)])).length) Slot.unset).toArray = ls at hl ⊢
  have hl : lv_has ls 5 [(0, .ref (ad 0 0)), (1, .int (x)), (2, .int (y)), (3, .ref (ad 40 0))] := hl
  have htab : cP.exceptionTable.toList = [(⟨0, 10, 13, 25⟩ : ExceptionTableEntry)] := vx_table (x := yL_reason) B (hts _ (show _ ∈ wsL_reason from List.mem_cons_self))
  have hsc8 := hW.2.2.1.le 3 1 2 7 rfl
  refine lv_aload_n hx hb dL_reason_0 rfl (lv_at hl 3 rfl) ?_
  refine lv_iconst (v := nI 0) hx hb dL_reason_1 (by decide) ?_
  refine lv_aload_n hx hb dL_reason_2 rfl (lv_at hl 0 rfl) ?_
  refine lv_iload_n hx hb dL_reason_3 rfl (lv_at hl 1 rfl) ?_
  refine lv_iload_n hx hb dL_reason_4 rfl (lv_at hl 2 rfl) ?_
  refine k_xi (k_xV (As := [.int (x), .int (y)]) (rest := [.int (nI (0)), .ref (ad 40 0)]) M hW hS (c_X4_reason l hfl D Z N0 g ad x y) (cwV 2 hts gL_reason_X4_reason rfl rfl rfl (by decide +kernel) ⟨Nat.le_of_ble_eq_true rfl, Nat.le_of_ble_eq_true rfl⟩) (r_recv M.2 hW 0 0 (lv0 _) rfl rfl) rfl hl.1 rfl (Nat.le_of_ble_eq_true rfl) dL_reason_5 ⟨Nat.le_of_ble_eq_true rfl, Nat.le_of_ble_eq_true rfl⟩) hS (fun E ce q9 H locs hp hW hS hq9 => ?_) (fun r2_z g1_z H locs hp hW hS => ?_)
  · obtain ⟨rfl, hx9⟩ := hp
    refine vx_catch (own := RL) (name := "java/lang/IndexOutOfBoundsException") hown [] (⟨0, 10, 13, 25⟩ : ExceptionTableEntry) [] htab (fun z h => absurd h (List.not_mem_nil)) (by decide) (by decide) (hts _ w_Cond_classLink_RL_25__java_lang_IndexOutOfBoundsException_) (va_Nw.use rfl (hC.2.2.2.2.1 ("java/lang/IndexOutOfBoundsException", "java/lang/IndexOutOfBoundsException") (by decide))) hq9.1 hq9.2.1 hq9.2.2 ?_
    refine lv_astore (lv' := [(4, .ref q9), (0, .ref (ad 0 0)), (1, .int (x)), (2, .int (y)), (3, .ref (ad 40 0))]) hx hb dL_reason_13 hl (by decide) rfl (fun ls hl => ?_)
    refine lv_iconst (v := nI 1) hx hb dL_reason_15 (by decide) ?_
    refine W.widen (k := 2) (n := 12) (Nat.le_of_ble_eq_true rfl) (Nat.le_of_ble_eq_true rfl) ?_
    -- path 1
    exact W.iret (v := nI (1)) hx hb hr (fun t ht hW9 => ⟨⟨nI (1), g, rfl, ⟨hf, Or.inr (⟨rfl, rfl, hx9⟩)⟩, (show Wd D Z N0 g ad t.heap by rw [ht]; exact hW)⟩, hS.F ht⟩) hS.2.2 dL_reason_16
  · obtain ⟨hf1, hp⟩ := hp
    have hf : Fr g g1_z := hf.trans hf1
    have hp9 := hp
    obtain ⟨n9, hn9⟩ := lN_all (r2_z).toInt64
    refine lv_i2l hx hb dL_reason_8 hn9 ?_
    refine r_lst M hW hS dL_reason_9 (fun H locs hW hS => ?_)
    obtain ⟨g3_z, eg3_z⟩ : ∃ z, z = up g1_z 40 0 0 n9 := ⟨_, rfl⟩
    rw [← eg3_z] at hW
    have hf : Fr g g3_z := by rw [eg3_z]; exact hf.up rfl
    refine lv_goto (tgt := 17) hx hb dL_reason_10 (by decide) ?_
    refine lv_iconst (v := nI 0) hx hb dL_reason_17 (by decide) ?_
    refine W.widen (k := 2) (n := 12) (Nat.le_of_ble_eq_true rfl) (Nat.le_of_ble_eq_true rfl) ?_
    -- path 2
    exact W.iret (v := nI (0)) hx hb hr (fun t ht hW9 => ⟨⟨nI (0), g3_z, rfl, ⟨hf, Or.inl (⟨rfl, r2_z, g1_z, hp9, ⟨n9, hn9, eg3_z⟩⟩)⟩, (show Wd D Z N0 g3_z ad t.heap by rw [ht]; exact hW)⟩, hS.F ht⟩) hS.2.2 dL_reason_18

set_option maxHeartbeats 4000000 in
set_option maxRecDepth 100000 in
theorem c_L_counter (l : Launch) (hfl : l.stackTraces = false) (D : va_G) (Z : Nat → Nat) (N0 : Nat) (g : T3) (ad : T2) (x : Int32) : Met l yL_counter wsL_counter ({ frames := 8, cells := 1, slots := 6, locals := 380 } : Room) (PC D Z N0 g ad [.ref (ad 0 0), .int (x), .ref (ad 40 0)]) (QI D Z N0 ad (fun (r : Int32) (g1 : T3) => Fr g g1 ∧ ((r = nI 0 ∧ ∃ r9 g2, (∃ i, i < g 3 0 2 ∧ x = nI i ∧ r9 = nI (g 10 i 3) ∧ g = g2) ∧ ∃ n9, r9.toInt64 = lN n9 ∧ g1 = up g2 40 0 0 n9) ∨ (r = nI 1 ∧ g = g1 ∧ (¬ Ix (g 3 0 2) x))))) 1 6 (AA N0) := by
  refine va_MetW (cc := cL_counter) (maxL := 4) (ret := (some .int)) (by decide) rfl ?_
  intro pP eP sP mP args below meth cP s₁ B hmlP hvP
  obtain ⟨rfl, hW, hC⟩ := hvP
  have hx := B.exec
  have hb := B.bytes
  have hr := B.returns
  have hts := atoms_spec (ws := wsL_counter) B.pre
  have hown : sP.vm.findClass RL = some mP.cls := findClass_of_methodNamed B.named
  have hlocks := B.notSynchronized
  have w_Cond_classLink_RL_25__java_lang_IndexOutOfBoundsException_ : Cond.classLink RL 25 "java/lang/IndexOutOfBoundsException" ∈ wsL_counter := by decide +kernel
  have M : Mx pP mP cP cL_counter 4 sP ([.ref (ad 0 0), .int (x), .ref (ad 40 0)] : List Value).toArray wsL_counter RL D Z N0 := ⟨⟨hx, hb, hmlP, hown, hts⟩, hC⟩
  have hf : Fr g g := Fr.rf g
  have hS : va_S (AA N0) sP.heap sP.heap [] := va_S.rf
  have hl := lv_entry ([.ref (ad 0 0), .int (x), .ref (ad 40 0)]) (n := 4) (Nat.le_of_ble_eq_true rfl)
  rw [lg_entry_eq]
  generalize (lg_sl ([.ref (ad 0 0), .int (x), .ref (ad 40 0)]) ++ List.replicate (4 - (lg_sl ([.ref (ad 0 0), .int (x), .ref (ad 40 0)])).length) Slot.unset).toArray = ls at hl ⊢
  have hl : lv_has ls 4 [(0, .ref (ad 0 0)), (1, .int (x)), (2, .ref (ad 40 0))] := hl
  have htab : cP.exceptionTable.toList = [(⟨0, 9, 12, 25⟩ : ExceptionTableEntry)] := vx_table (x := yL_counter) B (hts _ (show _ ∈ wsL_counter from List.mem_cons_self))
  have hsc8 := hW.2.2.1.le 3 1 2 7 rfl
  refine lv_aload_n hx hb dL_counter_0 rfl (lv_at hl 2 rfl) ?_
  refine lv_iconst (v := nI 0) hx hb dL_counter_1 (by decide) ?_
  refine lv_aload_n hx hb dL_counter_2 rfl (lv_at hl 0 rfl) ?_
  refine lv_iload_n hx hb dL_counter_3 rfl (lv_at hl 1 rfl) ?_
  refine k_xi (k_xV (As := [.int (x)]) (rest := [.int (nI (0)), .ref (ad 40 0)]) M hW hS (c_X4_counter l hfl D Z N0 g ad x) (cwV 1 hts gL_counter_X4_counter rfl rfl rfl (by decide +kernel) ⟨Nat.le_of_ble_eq_true rfl, Nat.le_of_ble_eq_true rfl⟩) (r_recv M.2 hW 0 0 (lv0 _) rfl rfl) rfl hl.1 rfl (Nat.le_of_ble_eq_true rfl) dL_counter_4 ⟨Nat.le_of_ble_eq_true rfl, Nat.le_of_ble_eq_true rfl⟩) hS (fun E ce q9 H locs hp hW hS hq9 => ?_) (fun r2_z g1_z H locs hp hW hS => ?_)
  · obtain ⟨rfl, hx9⟩ := hp
    refine vx_catch (own := RL) (name := "java/lang/IndexOutOfBoundsException") hown [] (⟨0, 9, 12, 25⟩ : ExceptionTableEntry) [] htab (fun z h => absurd h (List.not_mem_nil)) (by decide) (by decide) (hts _ w_Cond_classLink_RL_25__java_lang_IndexOutOfBoundsException_) (va_Nw.use rfl (hC.2.2.2.2.1 ("java/lang/IndexOutOfBoundsException", "java/lang/IndexOutOfBoundsException") (by decide))) hq9.1 hq9.2.1 hq9.2.2 ?_
    refine lv_astore_n (lv' := [(3, .ref q9), (0, .ref (ad 0 0)), (1, .int (x)), (2, .ref (ad 40 0))]) hx hb dL_counter_12 rfl hl (by decide) rfl (fun ls hl => ?_)
    refine lv_iconst (v := nI 1) hx hb dL_counter_13 (by decide) ?_
    refine W.widen (k := 1) (n := 6) (Nat.le_of_ble_eq_true rfl) (Nat.le_of_ble_eq_true rfl) ?_
    -- path 1
    exact W.iret (v := nI (1)) hx hb hr (fun t ht hW9 => ⟨⟨nI (1), g, rfl, ⟨hf, Or.inr (⟨rfl, rfl, hx9⟩)⟩, (show Wd D Z N0 g ad t.heap by rw [ht]; exact hW)⟩, hS.F ht⟩) hS.2.2 dL_counter_14
  · obtain ⟨hf1, hp⟩ := hp
    have hf : Fr g g1_z := hf.trans hf1
    have hp9 := hp
    obtain ⟨n9, hn9⟩ := lN_all (r2_z).toInt64
    refine lv_i2l hx hb dL_counter_7 hn9 ?_
    refine r_lst M hW hS dL_counter_8 (fun H locs hW hS => ?_)
    obtain ⟨g3_z, eg3_z⟩ : ∃ z, z = up g1_z 40 0 0 n9 := ⟨_, rfl⟩
    rw [← eg3_z] at hW
    have hf : Fr g g3_z := by rw [eg3_z]; exact hf.up rfl
    refine lv_goto (tgt := 15) hx hb dL_counter_9 (by decide) ?_
    refine lv_iconst (v := nI 0) hx hb dL_counter_15 (by decide) ?_
    refine W.widen (k := 1) (n := 6) (Nat.le_of_ble_eq_true rfl) (Nat.le_of_ble_eq_true rfl) ?_
    -- path 2
    exact W.iret (v := nI (0)) hx hb hr (fun t ht hW9 => ⟨⟨nI (0), g3_z, rfl, ⟨hf, Or.inl (⟨rfl, r2_z, g1_z, hp9, ⟨n9, hn9, eg3_z⟩⟩)⟩, (show Wd D Z N0 g3_z ad t.heap by rw [ht]; exact hW)⟩, hS.F ht⟩) hS.2.2 dL_counter_16

set_option maxHeartbeats 4000000 in
set_option maxRecDepth 100000 in
theorem c_L_start (l : Launch) (hfl : l.stackTraces = false) (D : va_G) (Z : Nat → Nat) (N0 : Nat) (g : T3) (ad : T2) : Met l yL_start wsL_start ({ frames := 7, cells := 1, slots := 6, locals := 340 } : Room) (PC D Z N0 g ad [.ref (ad 0 0), .ref (ad 40 0)]) (QI D Z N0 ad (fun (r : Int32) (g1 : T3) => Fr g g1 ∧ ((r = nI 0 ∧ ∃ r9 g2, (g 0 0 6 = 111 ∧ ¬ g 3 0 2 = 0 ∧ r9 = nI (if stF g 5 0 5 = stF g 3 0 2 then 1 else 0) ∧ g2 = up (stF g) 0 0 6 (if stF g 5 0 5 = stF g 3 0 2 then 114 else 104)) ∧ g1 = up g2 40 0 0 (if r9 = 0 then 0 else 1)) ∨ (r = nI 1 ∧ g = g1 ∧ ((¬ g 0 0 6 = 111 ∨ g 3 0 2 = 0)))))) 1 6 (AA N0) := by
  refine va_MetW (cc := cL_start) (maxL := 3) (ret := (some .int)) (by decide) rfl ?_
  intro pP eP sP mP args below meth cP s₁ B hmlP hvP
  obtain ⟨rfl, hW, hC⟩ := hvP
  have hx := B.exec
  have hb := B.bytes
  have hr := B.returns
  have hts := atoms_spec (ws := wsL_start) B.pre
  have hown : sP.vm.findClass RL = some mP.cls := findClass_of_methodNamed B.named
  have hlocks := B.notSynchronized
  have w_Cond_classLink_RL_19__java_lang_IllegalStateException_ : Cond.classLink RL 19 "java/lang/IllegalStateException" ∈ wsL_start := by decide +kernel
  have M : Mx pP mP cP cL_start 3 sP ([.ref (ad 0 0), .ref (ad 40 0)] : List Value).toArray wsL_start RL D Z N0 := ⟨⟨hx, hb, hmlP, hown, hts⟩, hC⟩
  have hf : Fr g g := Fr.rf g
  have hS : va_S (AA N0) sP.heap sP.heap [] := va_S.rf
  have hl := lv_entry ([.ref (ad 0 0), .ref (ad 40 0)]) (n := 3) (Nat.le_of_ble_eq_true rfl)
  rw [lg_entry_eq]
  generalize (lg_sl ([.ref (ad 0 0), .ref (ad 40 0)]) ++ List.replicate (3 - (lg_sl ([.ref (ad 0 0), .ref (ad 40 0)])).length) Slot.unset).toArray = ls at hl ⊢
  have hl : lv_has ls 3 [(0, .ref (ad 0 0)), (1, .ref (ad 40 0))] := hl
  have htab : cP.exceptionTable.toList = [(⟨0, 15, 18, 19⟩ : ExceptionTableEntry)] := vx_table (x := yL_start) B (hts _ (show _ ∈ wsL_start from List.mem_cons_self))
  have hsc8 := hW.2.2.1.le 3 1 2 7 rfl
  refine lv_aload_n hx hb dL_start_0 rfl (lv_at hl 1 rfl) ?_
  refine lv_iconst (v := nI 0) hx hb dL_start_1 (by decide) ?_
  refine lv_aload_n hx hb dL_start_2 rfl (lv_at hl 0 rfl) ?_
  refine k_xi (k_xV (As := []) (rest := [.int (nI (0)), .ref (ad 40 0)]) M hW hS (c_X4_start l hfl D Z N0 g ad) (cwV 0 hts gL_start_X4_start rfl rfl rfl (by decide +kernel) ⟨Nat.le_of_ble_eq_true rfl, Nat.le_of_ble_eq_true rfl⟩) (r_recv M.2 hW 0 0 (lv0 _) rfl rfl) rfl hl.1 rfl (Nat.le_of_ble_eq_true rfl) dL_start_3 ⟨Nat.le_of_ble_eq_true rfl, Nat.le_of_ble_eq_true rfl⟩) hS (fun E ce q9 H locs hp hW hS hq9 => ?_) (fun r2_z g1_z H locs hp hW hS => ?_)
  · obtain ⟨rfl, hx9⟩ := hp
    refine vx_catch (own := RL) (name := "java/lang/IllegalStateException") hown [] (⟨0, 15, 18, 19⟩ : ExceptionTableEntry) [] htab (fun z h => absurd h (List.not_mem_nil)) (by decide) (by decide) (hts _ w_Cond_classLink_RL_19__java_lang_IllegalStateException_) (va_Nw.use rfl (hC.2.2.2.2.1 ("java/lang/IllegalStateException", "java/lang/IllegalStateException") (by decide))) hq9.1 hq9.2.1 hq9.2.2 ?_
    refine lv_astore_n (lv' := [(2, .ref q9), (0, .ref (ad 0 0)), (1, .ref (ad 40 0))]) hx hb dL_start_18 rfl hl (by decide) rfl (fun ls hl => ?_)
    refine lv_iconst (v := nI 1) hx hb dL_start_19 (by decide) ?_
    refine W.widen (k := 1) (n := 6) (Nat.le_of_ble_eq_true rfl) (Nat.le_of_ble_eq_true rfl) ?_
    -- path 1
    exact W.iret (v := nI (1)) hx hb hr (fun t ht hW9 => ⟨⟨nI (1), g, rfl, ⟨hf, Or.inr (⟨rfl, rfl, hx9⟩)⟩, (show Wd D Z N0 g ad t.heap by rw [ht]; exact hW)⟩, hS.F ht⟩) hS.2.2 dL_start_20
  · obtain ⟨hf1, hp⟩ := hp
    have hf : Fr g g1_z := hf.trans hf1
    have hp9 := hp
    refine lv_if_eq (tgt := 13) hx hb dL_start_6 (by decide) (fun c3_z => ?_) (fun c3_z => ?_)
    · refine lv_lconst (v := lN 0) hx hb dL_start_13 rfl ?_
      refine r_lst M hW hS dL_start_14 (fun H locs hW hS => ?_)
      obtain ⟨g4_z, eg4_z⟩ : ∃ z, z = up g1_z 40 0 0 0 := ⟨_, rfl⟩
      rw [← eg4_z] at hW
      have hf : Fr g g4_z := by rw [eg4_z]; exact hf.up rfl
      refine lv_goto (tgt := 21) hx hb dL_start_15 (by decide) ?_
      refine lv_iconst (v := nI 0) hx hb dL_start_21 (by decide) ?_
      refine W.widen (k := 1) (n := 6) (Nat.le_of_ble_eq_true rfl) (Nat.le_of_ble_eq_true rfl) ?_
      -- path 2
      exact W.iret (v := nI (0)) hx hb hr (fun t ht hW9 => ⟨⟨nI (0), g4_z, rfl, ⟨hf, Or.inl (⟨rfl, r2_z, g1_z, hp9, (by rw [eg4_z, if_pos c3_z])⟩)⟩, (show Wd D Z N0 g4_z ad t.heap by rw [ht]; exact hW)⟩, hS.F ht⟩) hS.2.2 dL_start_22
    · refine lv_lconst (v := lN 1) hx hb dL_start_9 rfl ?_
      refine lv_goto (tgt := 14) hx hb dL_start_10 (by decide) ?_
      refine r_lst M hW hS dL_start_14 (fun H locs hW hS => ?_)
      obtain ⟨g5_z, eg5_z⟩ : ∃ z, z = up g1_z 40 0 0 1 := ⟨_, rfl⟩
      rw [← eg5_z] at hW
      have hf : Fr g g5_z := by rw [eg5_z]; exact hf.up rfl
      refine lv_goto (tgt := 21) hx hb dL_start_15 (by decide) ?_
      refine lv_iconst (v := nI 0) hx hb dL_start_21 (by decide) ?_
      refine W.widen (k := 1) (n := 6) (Nat.le_of_ble_eq_true rfl) (Nat.le_of_ble_eq_true rfl) ?_
      -- path 3
      exact W.iret (v := nI (0)) hx hb hr (fun t ht hW9 => ⟨⟨nI (0), g5_z, rfl, ⟨hf, Or.inl (⟨rfl, r2_z, g1_z, hp9, (by rw [eg5_z, if_neg c3_z])⟩)⟩, (show Wd D Z N0 g5_z ad t.heap by rw [ht]; exact hW)⟩, hS.F ht⟩) hS.2.2 dL_start_22

set_option maxHeartbeats 4000000 in
set_option maxRecDepth 100000 in
theorem c_L_stop (l : Launch) (hfl : l.stackTraces = false) (D : va_G) (Z : Nat → Nat) (N0 : Nat) (g : T3) (ad : T2) : Met l yL_stop wsL_stop ({ frames := 7, cells := 1, slots := 6, locals := 340 } : Room) (PC D Z N0 g ad [.ref (ad 0 0), .ref (ad 40 0)]) (QI D Z N0 ad (fun (r : Int32) (g1 : T3) => Fr g g1 ∧ ((r = nI 0 ∧ ∃ r9 g2, (¬ g 0 0 6 = 111 ∧ r9 = nI (g 5 0 5) ∧ g2 = up g 0 0 6 111) ∧ ∃ n9, r9.toInt64 = lN n9 ∧ g1 = up g2 40 0 0 n9) ∨ (r = nI 1 ∧ g = g1 ∧ (g 0 0 6 = 111))))) 1 6 (AA N0) := by
  refine va_MetW (cc := cL_stop) (maxL := 3) (ret := (some .int)) (by decide) rfl ?_
  intro pP eP sP mP args below meth cP s₁ B hmlP hvP
  obtain ⟨rfl, hW, hC⟩ := hvP
  have hx := B.exec
  have hb := B.bytes
  have hr := B.returns
  have hts := atoms_spec (ws := wsL_stop) B.pre
  have hown : sP.vm.findClass RL = some mP.cls := findClass_of_methodNamed B.named
  have hlocks := B.notSynchronized
  have w_Cond_classLink_RL_19__java_lang_IllegalStateException_ : Cond.classLink RL 19 "java/lang/IllegalStateException" ∈ wsL_stop := by decide +kernel
  have M : Mx pP mP cP cL_stop 3 sP ([.ref (ad 0 0), .ref (ad 40 0)] : List Value).toArray wsL_stop RL D Z N0 := ⟨⟨hx, hb, hmlP, hown, hts⟩, hC⟩
  have hf : Fr g g := Fr.rf g
  have hS : va_S (AA N0) sP.heap sP.heap [] := va_S.rf
  have hl := lv_entry ([.ref (ad 0 0), .ref (ad 40 0)]) (n := 3) (Nat.le_of_ble_eq_true rfl)
  rw [lg_entry_eq]
  generalize (lg_sl ([.ref (ad 0 0), .ref (ad 40 0)]) ++ List.replicate (3 - (lg_sl ([.ref (ad 0 0), .ref (ad 40 0)])).length) Slot.unset).toArray = ls at hl ⊢
  have hl : lv_has ls 3 [(0, .ref (ad 0 0)), (1, .ref (ad 40 0))] := hl
  have htab : cP.exceptionTable.toList = [(⟨0, 8, 11, 19⟩ : ExceptionTableEntry)] := vx_table (x := yL_stop) B (hts _ (show _ ∈ wsL_stop from List.mem_cons_self))
  have hsc8 := hW.2.2.1.le 3 1 2 7 rfl
  refine lv_aload_n hx hb dL_stop_0 rfl (lv_at hl 1 rfl) ?_
  refine lv_iconst (v := nI 0) hx hb dL_stop_1 (by decide) ?_
  refine lv_aload_n hx hb dL_stop_2 rfl (lv_at hl 0 rfl) ?_
  refine k_xi (k_xV (As := []) (rest := [.int (nI (0)), .ref (ad 40 0)]) M hW hS (c_X4_stop l hfl D Z N0 g ad) (cwV 0 hts gL_stop_X4_stop rfl rfl rfl (by decide +kernel) ⟨Nat.le_of_ble_eq_true rfl, Nat.le_of_ble_eq_true rfl⟩) (r_recv M.2 hW 0 0 (lv0 _) rfl rfl) rfl hl.1 rfl (Nat.le_of_ble_eq_true rfl) dL_stop_3 ⟨Nat.le_of_ble_eq_true rfl, Nat.le_of_ble_eq_true rfl⟩) hS (fun E ce q9 H locs hp hW hS hq9 => ?_) (fun r2_z g1_z H locs hp hW hS => ?_)
  · obtain ⟨rfl, hx9⟩ := hp
    refine vx_catch (own := RL) (name := "java/lang/IllegalStateException") hown [] (⟨0, 8, 11, 19⟩ : ExceptionTableEntry) [] htab (fun z h => absurd h (List.not_mem_nil)) (by decide) (by decide) (hts _ w_Cond_classLink_RL_19__java_lang_IllegalStateException_) (va_Nw.use rfl (hC.2.2.2.2.1 ("java/lang/IllegalStateException", "java/lang/IllegalStateException") (by decide))) hq9.1 hq9.2.1 hq9.2.2 ?_
    refine lv_astore_n (lv' := [(2, .ref q9), (0, .ref (ad 0 0)), (1, .ref (ad 40 0))]) hx hb dL_stop_11 rfl hl (by decide) rfl (fun ls hl => ?_)
    refine lv_iconst (v := nI 1) hx hb dL_stop_12 (by decide) ?_
    refine W.widen (k := 1) (n := 6) (Nat.le_of_ble_eq_true rfl) (Nat.le_of_ble_eq_true rfl) ?_
    -- path 1
    exact W.iret (v := nI (1)) hx hb hr (fun t ht hW9 => ⟨⟨nI (1), g, rfl, ⟨hf, Or.inr (⟨rfl, rfl, hx9⟩)⟩, (show Wd D Z N0 g ad t.heap by rw [ht]; exact hW)⟩, hS.F ht⟩) hS.2.2 dL_stop_13
  · obtain ⟨hf1, hp⟩ := hp
    have hf : Fr g g1_z := hf.trans hf1
    have hp9 := hp
    obtain ⟨n9, hn9⟩ := lN_all (r2_z).toInt64
    refine lv_i2l hx hb dL_stop_6 hn9 ?_
    refine r_lst M hW hS dL_stop_7 (fun H locs hW hS => ?_)
    obtain ⟨g3_z, eg3_z⟩ : ∃ z, z = up g1_z 40 0 0 n9 := ⟨_, rfl⟩
    rw [← eg3_z] at hW
    have hf : Fr g g3_z := by rw [eg3_z]; exact hf.up rfl
    refine lv_goto (tgt := 14) hx hb dL_stop_8 (by decide) ?_
    refine lv_iconst (v := nI 0) hx hb dL_stop_14 (by decide) ?_
    refine W.widen (k := 1) (n := 6) (Nat.le_of_ble_eq_true rfl) (Nat.le_of_ble_eq_true rfl) ?_
    -- path 2
    exact W.iret (v := nI (0)) hx hb hr (fun t ht hW9 => ⟨⟨nI (0), g3_z, rfl, ⟨hf, Or.inl (⟨rfl, r2_z, g1_z, hp9, ⟨n9, hn9, eg3_z⟩⟩)⟩, (show Wd D Z N0 g3_z ad t.heap by rw [ht]; exact hW)⟩, hS.F ht⟩) hS.2.2 dL_stop_15

set_option maxHeartbeats 4000000 in
set_option maxRecDepth 100000 in
theorem c_L_commit (l : Launch) (hfl : l.stackTraces = false) (D : va_G) (Z : Nat → Nat) (N0 : Nat) (g : T3) (ad : T2) : Met l yL_commit wsL_commit ({ frames := 7, cells := 1, slots := 6, locals := 340 } : Room) (PC D Z N0 g ad [.ref (ad 0 0), .ref (ad 40 0)]) (QI D Z N0 ad (fun (r : Int32) (g1 : T3) => Fr g g1 ∧ ((r = nI 0 ∧ ∃ r9 g2, (g 0 0 6 = 114 ∧ r9 = nI (cmt g (min (g 5 0 5) (g 3 0 2))).1 ∧ g2 = (cmt g (min (g 5 0 5) (g 3 0 2))).2) ∧ ∃ n9, r9.toInt64 = lN n9 ∧ g1 = up g2 40 0 0 n9) ∨ (r = nI 1 ∧ g = g1 ∧ (¬ g 0 0 6 = 114))))) 1 6 (AA N0) := by
  refine va_MetW (cc := cL_commit) (maxL := 3) (ret := (some .int)) (by decide) rfl ?_
  intro pP eP sP mP args below meth cP s₁ B hmlP hvP
  obtain ⟨rfl, hW, hC⟩ := hvP
  have hx := B.exec
  have hb := B.bytes
  have hr := B.returns
  have hts := atoms_spec (ws := wsL_commit) B.pre
  have hown : sP.vm.findClass RL = some mP.cls := findClass_of_methodNamed B.named
  have hlocks := B.notSynchronized
  have w_Cond_classLink_RL_19__java_lang_IllegalStateException_ : Cond.classLink RL 19 "java/lang/IllegalStateException" ∈ wsL_commit := by decide +kernel
  have M : Mx pP mP cP cL_commit 3 sP ([.ref (ad 0 0), .ref (ad 40 0)] : List Value).toArray wsL_commit RL D Z N0 := ⟨⟨hx, hb, hmlP, hown, hts⟩, hC⟩
  have hf : Fr g g := Fr.rf g
  have hS : va_S (AA N0) sP.heap sP.heap [] := va_S.rf
  have hl := lv_entry ([.ref (ad 0 0), .ref (ad 40 0)]) (n := 3) (Nat.le_of_ble_eq_true rfl)
  rw [lg_entry_eq]
  generalize (lg_sl ([.ref (ad 0 0), .ref (ad 40 0)]) ++ List.replicate (3 - (lg_sl ([.ref (ad 0 0), .ref (ad 40 0)])).length) Slot.unset).toArray = ls at hl ⊢
  have hl : lv_has ls 3 [(0, .ref (ad 0 0)), (1, .ref (ad 40 0))] := hl
  have htab : cP.exceptionTable.toList = [(⟨0, 8, 11, 19⟩ : ExceptionTableEntry)] := vx_table (x := yL_commit) B (hts _ (show _ ∈ wsL_commit from List.mem_cons_self))
  have hsc8 := hW.2.2.1.le 3 1 2 7 rfl
  refine lv_aload_n hx hb dL_commit_0 rfl (lv_at hl 1 rfl) ?_
  refine lv_iconst (v := nI 0) hx hb dL_commit_1 (by decide) ?_
  refine lv_aload_n hx hb dL_commit_2 rfl (lv_at hl 0 rfl) ?_
  refine k_xi (k_xV (As := []) (rest := [.int (nI (0)), .ref (ad 40 0)]) M hW hS (c_X4_commit l hfl D Z N0 g ad) (cwV 0 hts gL_commit_X4_commit rfl rfl rfl (by decide +kernel) ⟨Nat.le_of_ble_eq_true rfl, Nat.le_of_ble_eq_true rfl⟩) (r_recv M.2 hW 0 0 (lv0 _) rfl rfl) rfl hl.1 rfl (Nat.le_of_ble_eq_true rfl) dL_commit_3 ⟨Nat.le_of_ble_eq_true rfl, Nat.le_of_ble_eq_true rfl⟩) hS (fun E ce q9 H locs hp hW hS hq9 => ?_) (fun r2_z g1_z H locs hp hW hS => ?_)
  · obtain ⟨rfl, hx9⟩ := hp
    refine vx_catch (own := RL) (name := "java/lang/IllegalStateException") hown [] (⟨0, 8, 11, 19⟩ : ExceptionTableEntry) [] htab (fun z h => absurd h (List.not_mem_nil)) (by decide) (by decide) (hts _ w_Cond_classLink_RL_19__java_lang_IllegalStateException_) (va_Nw.use rfl (hC.2.2.2.2.1 ("java/lang/IllegalStateException", "java/lang/IllegalStateException") (by decide))) hq9.1 hq9.2.1 hq9.2.2 ?_
    refine lv_astore_n (lv' := [(2, .ref q9), (0, .ref (ad 0 0)), (1, .ref (ad 40 0))]) hx hb dL_commit_11 rfl hl (by decide) rfl (fun ls hl => ?_)
    refine lv_iconst (v := nI 1) hx hb dL_commit_12 (by decide) ?_
    refine W.widen (k := 1) (n := 6) (Nat.le_of_ble_eq_true rfl) (Nat.le_of_ble_eq_true rfl) ?_
    -- path 1
    exact W.iret (v := nI (1)) hx hb hr (fun t ht hW9 => ⟨⟨nI (1), g, rfl, ⟨hf, Or.inr (⟨rfl, rfl, hx9⟩)⟩, (show Wd D Z N0 g ad t.heap by rw [ht]; exact hW)⟩, hS.F ht⟩) hS.2.2 dL_commit_13
  · obtain ⟨hf1, hp⟩ := hp
    have hf : Fr g g1_z := hf.trans hf1
    have hp9 := hp
    obtain ⟨n9, hn9⟩ := lN_all (r2_z).toInt64
    refine lv_i2l hx hb dL_commit_6 hn9 ?_
    refine r_lst M hW hS dL_commit_7 (fun H locs hW hS => ?_)
    obtain ⟨g3_z, eg3_z⟩ : ∃ z, z = up g1_z 40 0 0 n9 := ⟨_, rfl⟩
    rw [← eg3_z] at hW
    have hf : Fr g g3_z := by rw [eg3_z]; exact hf.up rfl
    refine lv_goto (tgt := 14) hx hb dL_commit_8 (by decide) ?_
    refine lv_iconst (v := nI 0) hx hb dL_commit_14 (by decide) ?_
    refine W.widen (k := 1) (n := 6) (Nat.le_of_ble_eq_true rfl) (Nat.le_of_ble_eq_true rfl) ?_
    -- path 2
    exact W.iret (v := nI (0)) hx hb hr (fun t ht hW9 => ⟨⟨nI (0), g3_z, rfl, ⟨hf, Or.inl (⟨rfl, r2_z, g1_z, hp9, ⟨n9, hn9, eg3_z⟩⟩)⟩, (show Wd D Z N0 g3_z ad t.heap by rw [ht]; exact hW)⟩, hS.F ht⟩) hS.2.2 dL_commit_15

set_option maxHeartbeats 4000000 in
set_option maxRecDepth 100000 in
theorem c_L_runsFrom (l : Launch) (hfl : l.stackTraces = false) (D : va_G) (Z : Nat → Nat) (N0 : Nat) (g : T3) (ad : T2) (x : Int32) : Met l yL_runsFrom wsL_runsFrom ({ frames := 7, cells := 1, slots := 6, locals := 340 } : Room) (PC D Z N0 g ad [.ref (ad 0 0), .int (x), .ref (ad 40 0)]) (QI D Z N0 ad (fun (r : Int32) (g1 : T3) => Fr g g1 ∧ ((r = nI 0 ∧ ∃ r9 g2, (∃ i, i < g 3 0 2 ∧ x = nI i ∧ i < cRun g ∧ r9 = nI (g 8 0 i) ∧ g = g2) ∧ ∃ n9, r9.toInt64 = lN n9 ∧ g1 = up g2 40 0 0 n9) ∨ (r = nI 1 ∧ g = g1 ∧ (¬ Ix (g 3 0 2) x)) ∨ (r = nI 2 ∧ g = g1 ∧ (∃ i, i < g 3 0 2 ∧ x = nI i ∧ ¬ i < cRun g))))) 1 6 (AA N0) := by
  refine va_MetW (cc := cL_runsFrom) (maxL := 4) (ret := (some .int)) (by decide) rfl ?_
  intro pP eP sP mP args below meth cP s₁ B hmlP hvP
  obtain ⟨rfl, hW, hC⟩ := hvP
  have hx := B.exec
  have hb := B.bytes
  have hr := B.returns
  have hts := atoms_spec (ws := wsL_runsFrom) B.pre
  have hown : sP.vm.findClass RL = some mP.cls := findClass_of_methodNamed B.named
  have hlocks := B.notSynchronized
  have w_Cond_classLink_RL_25__java_lang_IndexOutOfBoundsException_ : Cond.classLink RL 25 "java/lang/IndexOutOfBoundsException" ∈ wsL_runsFrom := by decide +kernel
  have w_Cond_classLink_RL_31__java_util_NoSuchElementException_ : Cond.classLink RL 31 "java/util/NoSuchElementException" ∈ wsL_runsFrom := by decide +kernel
  have M : Mx pP mP cP cL_runsFrom 4 sP ([.ref (ad 0 0), .int (x), .ref (ad 40 0)] : List Value).toArray wsL_runsFrom RL D Z N0 := ⟨⟨hx, hb, hmlP, hown, hts⟩, hC⟩
  have hf : Fr g g := Fr.rf g
  have hS : va_S (AA N0) sP.heap sP.heap [] := va_S.rf
  have hl := lv_entry ([.ref (ad 0 0), .int (x), .ref (ad 40 0)]) (n := 4) (Nat.le_of_ble_eq_true rfl)
  rw [lg_entry_eq]
  generalize (lg_sl ([.ref (ad 0 0), .int (x), .ref (ad 40 0)]) ++ List.replicate (4 - (lg_sl ([.ref (ad 0 0), .int (x), .ref (ad 40 0)])).length) Slot.unset).toArray = ls at hl ⊢
  have hl : lv_has ls 4 [(0, .ref (ad 0 0)), (1, .int (x)), (2, .ref (ad 40 0))] := hl
  have htab : cP.exceptionTable.toList = [(⟨0, 9, 12, 25⟩ : ExceptionTableEntry), (⟨0, 9, 15, 31⟩ : ExceptionTableEntry)] := vx_table (x := yL_runsFrom) B (hts _ (show _ ∈ wsL_runsFrom from List.mem_cons_self))
  have hsc8 := hW.2.2.1.le 3 1 2 7 rfl
  refine lv_aload_n hx hb dL_runsFrom_0 rfl (lv_at hl 2 rfl) ?_
  refine lv_iconst (v := nI 0) hx hb dL_runsFrom_1 (by decide) ?_
  refine lv_aload_n hx hb dL_runsFrom_2 rfl (lv_at hl 0 rfl) ?_
  refine lv_iload_n hx hb dL_runsFrom_3 rfl (lv_at hl 1 rfl) ?_
  refine k_xi (k_xV (As := [.int (x)]) (rest := [.int (nI (0)), .ref (ad 40 0)]) M hW hS (c_X4_runsFrom l hfl D Z N0 g ad x) (cwV 1 hts gL_runsFrom_X4_runsFrom rfl rfl rfl (by decide +kernel) ⟨Nat.le_of_ble_eq_true rfl, Nat.le_of_ble_eq_true rfl⟩) (r_recv M.2 hW 0 0 (lv0 _) rfl rfl) rfl hl.1 rfl (Nat.le_of_ble_eq_true rfl) dL_runsFrom_4 ⟨Nat.le_of_ble_eq_true rfl, Nat.le_of_ble_eq_true rfl⟩) hS (fun E ce q9 H locs hp hW hS hq9 => ?_) (fun r2_z g1_z H locs hp hW hS => ?_)
  · rcases hp with ⟨rfl, hx9⟩ | ⟨rfl, hx9⟩
    · refine vx_catch (own := RL) (name := "java/lang/IndexOutOfBoundsException") hown [] (⟨0, 9, 12, 25⟩ : ExceptionTableEntry) [(⟨0, 9, 15, 31⟩ : ExceptionTableEntry)] htab (fun z h => absurd h (List.not_mem_nil)) (by decide) (by decide) (hts _ w_Cond_classLink_RL_25__java_lang_IndexOutOfBoundsException_) (va_Nw.use rfl (hC.2.2.2.2.1 ("java/lang/IndexOutOfBoundsException", "java/lang/IndexOutOfBoundsException") (by decide))) hq9.1 hq9.2.1 hq9.2.2 ?_
      refine lv_astore_n (lv' := [(3, .ref q9), (0, .ref (ad 0 0)), (1, .int (x)), (2, .ref (ad 40 0))]) hx hb dL_runsFrom_12 rfl hl (by decide) rfl (fun ls hl => ?_)
      refine lv_iconst (v := nI 1) hx hb dL_runsFrom_13 (by decide) ?_
      refine W.widen (k := 1) (n := 6) (Nat.le_of_ble_eq_true rfl) (Nat.le_of_ble_eq_true rfl) ?_
      -- path 1
      exact W.iret (v := nI (1)) hx hb hr (fun t ht hW9 => ⟨⟨nI (1), g, rfl, ⟨hf, Or.inr (Or.inl (⟨rfl, rfl, hx9⟩))⟩, (show Wd D Z N0 g ad t.heap by rw [ht]; exact hW)⟩, hS.F ht⟩) hS.2.2 dL_runsFrom_14
    · refine vx_catch (own := RL) (name := "java/util/NoSuchElementException") hown [(⟨0, 9, 12, 25⟩ : ExceptionTableEntry)] (⟨0, 9, 15, 31⟩ : ExceptionTableEntry) [] htab (fun z h => (List.mem_cons.mp h).elim (fun h9 => h9 ▸ Or.inr ⟨by decide, "java/lang/IndexOutOfBoundsException", hts _ w_Cond_classLink_RL_25__java_lang_IndexOutOfBoundsException_, hC.2.2.2.2.2.2.1 ("java/util/NoSuchElementException", "java/lang/IndexOutOfBoundsException") (by decide)⟩) (fun h => absurd h (List.not_mem_nil))) (by decide) (by decide) (hts _ w_Cond_classLink_RL_31__java_util_NoSuchElementException_) (va_Nw.use rfl (hC.2.2.2.2.1 ("java/util/NoSuchElementException", "java/util/NoSuchElementException") (by decide))) hq9.1 hq9.2.1 hq9.2.2 ?_
      refine lv_astore_n (lv' := [(3, .ref q9), (0, .ref (ad 0 0)), (1, .int (x)), (2, .ref (ad 40 0))]) hx hb dL_runsFrom_15 rfl hl (by decide) rfl (fun ls hl => ?_)
      refine lv_iconst (v := nI 2) hx hb dL_runsFrom_16 (by decide) ?_
      refine W.widen (k := 1) (n := 6) (Nat.le_of_ble_eq_true rfl) (Nat.le_of_ble_eq_true rfl) ?_
      -- path 2
      exact W.iret (v := nI (2)) hx hb hr (fun t ht hW9 => ⟨⟨nI (2), g, rfl, ⟨hf, Or.inr (Or.inr (⟨rfl, rfl, hx9⟩))⟩, (show Wd D Z N0 g ad t.heap by rw [ht]; exact hW)⟩, hS.F ht⟩) hS.2.2 dL_runsFrom_17
  · obtain ⟨hf1, hp⟩ := hp
    have hf : Fr g g1_z := hf.trans hf1
    have hp9 := hp
    obtain ⟨n9, hn9⟩ := lN_all (r2_z).toInt64
    refine lv_i2l hx hb dL_runsFrom_7 hn9 ?_
    refine r_lst M hW hS dL_runsFrom_8 (fun H locs hW hS => ?_)
    obtain ⟨g3_z, eg3_z⟩ : ∃ z, z = up g1_z 40 0 0 n9 := ⟨_, rfl⟩
    rw [← eg3_z] at hW
    have hf : Fr g g3_z := by rw [eg3_z]; exact hf.up rfl
    refine lv_goto (tgt := 18) hx hb dL_runsFrom_9 (by decide) ?_
    refine lv_iconst (v := nI 0) hx hb dL_runsFrom_18 (by decide) ?_
    refine W.widen (k := 1) (n := 6) (Nat.le_of_ble_eq_true rfl) (Nat.le_of_ble_eq_true rfl) ?_
    -- path 3
    exact W.iret (v := nI (0)) hx hb hr (fun t ht hW9 => ⟨⟨nI (0), g3_z, rfl, ⟨hf, Or.inl (⟨rfl, r2_z, g1_z, hp9, ⟨n9, hn9, eg3_z⟩⟩)⟩, (show Wd D Z N0 g3_z ad t.heap by rw [ht]; exact hW)⟩, hS.F ht⟩) hS.2.2 dL_runsFrom_19

set_option maxHeartbeats 4000000 in
set_option maxRecDepth 100000 in
theorem c_L_register (l : Launch) (hfl : l.stackTraces = false) (D : va_G) (Z : Nat → Nat) (N0 : Nat) (g : T3) (ad : T2) (x : Int32) : Met l yL_register wsL_register ({ frames := 7, cells := 1, slots := 6, locals := 340 } : Room) (PC D Z N0 g ad [.ref (ad 0 0), .int (x), .ref (ad 40 0)]) (QI D Z N0 ad (fun (r : Int32) (g1 : T3) => Fr g g1 ∧ ((r = nI 0 ∧ ∃ r9 g2, (∃ i, i < 3 ∧ x = nI i ∧ r9 = nI (g 6 0 i) ∧ g = g2) ∧ ∃ n9, r9.toInt64 = lN n9 ∧ g1 = up g2 40 0 0 n9) ∨ (r = nI 1 ∧ g = g1 ∧ (¬ Ix 3 x))))) 1 6 (AA N0) := by
  refine va_MetW (cc := cL_register) (maxL := 4) (ret := (some .int)) (by decide) rfl ?_
  intro pP eP sP mP args below meth cP s₁ B hmlP hvP
  obtain ⟨rfl, hW, hC⟩ := hvP
  have hx := B.exec
  have hb := B.bytes
  have hr := B.returns
  have hts := atoms_spec (ws := wsL_register) B.pre
  have hown : sP.vm.findClass RL = some mP.cls := findClass_of_methodNamed B.named
  have hlocks := B.notSynchronized
  have w_Cond_classLink_RL_25__java_lang_IndexOutOfBoundsException_ : Cond.classLink RL 25 "java/lang/IndexOutOfBoundsException" ∈ wsL_register := by decide +kernel
  have M : Mx pP mP cP cL_register 4 sP ([.ref (ad 0 0), .int (x), .ref (ad 40 0)] : List Value).toArray wsL_register RL D Z N0 := ⟨⟨hx, hb, hmlP, hown, hts⟩, hC⟩
  have hf : Fr g g := Fr.rf g
  have hS : va_S (AA N0) sP.heap sP.heap [] := va_S.rf
  have hl := lv_entry ([.ref (ad 0 0), .int (x), .ref (ad 40 0)]) (n := 4) (Nat.le_of_ble_eq_true rfl)
  rw [lg_entry_eq]
  generalize (lg_sl ([.ref (ad 0 0), .int (x), .ref (ad 40 0)]) ++ List.replicate (4 - (lg_sl ([.ref (ad 0 0), .int (x), .ref (ad 40 0)])).length) Slot.unset).toArray = ls at hl ⊢
  have hl : lv_has ls 4 [(0, .ref (ad 0 0)), (1, .int (x)), (2, .ref (ad 40 0))] := hl
  have htab : cP.exceptionTable.toList = [(⟨0, 9, 12, 25⟩ : ExceptionTableEntry)] := vx_table (x := yL_register) B (hts _ (show _ ∈ wsL_register from List.mem_cons_self))
  have hsc8 := hW.2.2.1.le 3 1 2 7 rfl
  refine lv_aload_n hx hb dL_register_0 rfl (lv_at hl 2 rfl) ?_
  refine lv_iconst (v := nI 0) hx hb dL_register_1 (by decide) ?_
  refine lv_aload_n hx hb dL_register_2 rfl (lv_at hl 0 rfl) ?_
  refine lv_iload_n hx hb dL_register_3 rfl (lv_at hl 1 rfl) ?_
  refine k_xi (k_xV (As := [.int (x)]) (rest := [.int (nI (0)), .ref (ad 40 0)]) M hW hS (c_X4_register l hfl D Z N0 g ad x) (cwV 1 hts gL_register_X4_register rfl rfl rfl (by decide +kernel) ⟨Nat.le_of_ble_eq_true rfl, Nat.le_of_ble_eq_true rfl⟩) (r_recv M.2 hW 0 0 (lv0 _) rfl rfl) rfl hl.1 rfl (Nat.le_of_ble_eq_true rfl) dL_register_4 ⟨Nat.le_of_ble_eq_true rfl, Nat.le_of_ble_eq_true rfl⟩) hS (fun E ce q9 H locs hp hW hS hq9 => ?_) (fun r2_z g1_z H locs hp hW hS => ?_)
  · obtain ⟨rfl, hx9⟩ := hp
    refine vx_catch (own := RL) (name := "java/lang/IndexOutOfBoundsException") hown [] (⟨0, 9, 12, 25⟩ : ExceptionTableEntry) [] htab (fun z h => absurd h (List.not_mem_nil)) (by decide) (by decide) (hts _ w_Cond_classLink_RL_25__java_lang_IndexOutOfBoundsException_) (va_Nw.use rfl (hC.2.2.2.2.1 ("java/lang/IndexOutOfBoundsException", "java/lang/IndexOutOfBoundsException") (by decide))) hq9.1 hq9.2.1 hq9.2.2 ?_
    refine lv_astore_n (lv' := [(3, .ref q9), (0, .ref (ad 0 0)), (1, .int (x)), (2, .ref (ad 40 0))]) hx hb dL_register_12 rfl hl (by decide) rfl (fun ls hl => ?_)
    refine lv_iconst (v := nI 1) hx hb dL_register_13 (by decide) ?_
    refine W.widen (k := 1) (n := 6) (Nat.le_of_ble_eq_true rfl) (Nat.le_of_ble_eq_true rfl) ?_
    -- path 1
    exact W.iret (v := nI (1)) hx hb hr (fun t ht hW9 => ⟨⟨nI (1), g, rfl, ⟨hf, Or.inr (⟨rfl, rfl, hx9⟩)⟩, (show Wd D Z N0 g ad t.heap by rw [ht]; exact hW)⟩, hS.F ht⟩) hS.2.2 dL_register_14
  · obtain ⟨hf1, hp⟩ := hp
    have hf : Fr g g1_z := hf.trans hf1
    have hp9 := hp
    obtain ⟨n9, hn9⟩ := lN_all (r2_z).toInt64
    refine lv_i2l hx hb dL_register_7 hn9 ?_
    refine r_lst M hW hS dL_register_8 (fun H locs hW hS => ?_)
    obtain ⟨g3_z, eg3_z⟩ : ∃ z, z = up g1_z 40 0 0 n9 := ⟨_, rfl⟩
    rw [← eg3_z] at hW
    have hf : Fr g g3_z := by rw [eg3_z]; exact hf.up rfl
    refine lv_goto (tgt := 15) hx hb dL_register_9 (by decide) ?_
    refine lv_iconst (v := nI 0) hx hb dL_register_15 (by decide) ?_
    refine W.widen (k := 1) (n := 6) (Nat.le_of_ble_eq_true rfl) (Nat.le_of_ble_eq_true rfl) ?_
    -- path 2
    exact W.iret (v := nI (0)) hx hb hr (fun t ht hW9 => ⟨⟨nI (0), g3_z, rfl, ⟨hf, Or.inl (⟨rfl, r2_z, g1_z, hp9, ⟨n9, hn9, eg3_z⟩⟩)⟩, (show Wd D Z N0 g3_z ad t.heap by rw [ht]; exact hW)⟩, hS.F ht⟩) hS.2.2 dL_register_16

set_option maxHeartbeats 4000000 in
set_option maxRecDepth 100000 in
theorem c_L_registerByLog (l : Launch) (hfl : l.stackTraces = false) (D : va_G) (Z : Nat → Nat) (N0 : Nat) (g : T3) (ad : T2) (x : Int32) : Met l yL_registerByLog wsL_registerByLog ({ frames := 7, cells := 1, slots := 6, locals := 340 } : Room) (PC D Z N0 g ad [.ref (ad 0 0), .int (x), .ref (ad 40 0)]) (QI D Z N0 ad (fun (r : Int32) (g1 : T3) => Fr g g1 ∧ ((r = nI 0 ∧ ∃ r9 g2, (∃ i, i < 3 ∧ x = nI i ∧ r9 = nI (rbl g 0 i (g 5 0 2)) ∧ g = g2) ∧ ∃ n9, r9.toInt64 = lN n9 ∧ g1 = up g2 40 0 0 n9) ∨ (r = nI 1 ∧ g = g1 ∧ (¬ Ix 3 x))))) 1 6 (AA N0) := by
  refine va_MetW (cc := cL_registerByLog) (maxL := 4) (ret := (some .int)) (by decide) rfl ?_
  intro pP eP sP mP args below meth cP s₁ B hmlP hvP
  obtain ⟨rfl, hW, hC⟩ := hvP
  have hx := B.exec
  have hb := B.bytes
  have hr := B.returns
  have hts := atoms_spec (ws := wsL_registerByLog) B.pre
  have hown : sP.vm.findClass RL = some mP.cls := findClass_of_methodNamed B.named
  have hlocks := B.notSynchronized
  have w_Cond_classLink_RL_25__java_lang_IndexOutOfBoundsException_ : Cond.classLink RL 25 "java/lang/IndexOutOfBoundsException" ∈ wsL_registerByLog := by decide +kernel
  have M : Mx pP mP cP cL_registerByLog 4 sP ([.ref (ad 0 0), .int (x), .ref (ad 40 0)] : List Value).toArray wsL_registerByLog RL D Z N0 := ⟨⟨hx, hb, hmlP, hown, hts⟩, hC⟩
  have hf : Fr g g := Fr.rf g
  have hS : va_S (AA N0) sP.heap sP.heap [] := va_S.rf
  have hl := lv_entry ([.ref (ad 0 0), .int (x), .ref (ad 40 0)]) (n := 4) (Nat.le_of_ble_eq_true rfl)
  rw [lg_entry_eq]
  generalize (lg_sl ([.ref (ad 0 0), .int (x), .ref (ad 40 0)]) ++ List.replicate (4 - (lg_sl ([.ref (ad 0 0), .int (x), .ref (ad 40 0)])).length) Slot.unset).toArray = ls at hl ⊢
  have hl : lv_has ls 4 [(0, .ref (ad 0 0)), (1, .int (x)), (2, .ref (ad 40 0))] := hl
  have htab : cP.exceptionTable.toList = [(⟨0, 9, 12, 25⟩ : ExceptionTableEntry)] := vx_table (x := yL_registerByLog) B (hts _ (show _ ∈ wsL_registerByLog from List.mem_cons_self))
  have hsc8 := hW.2.2.1.le 3 1 2 7 rfl
  refine lv_aload_n hx hb dL_registerByLog_0 rfl (lv_at hl 2 rfl) ?_
  refine lv_iconst (v := nI 0) hx hb dL_registerByLog_1 (by decide) ?_
  refine lv_aload_n hx hb dL_registerByLog_2 rfl (lv_at hl 0 rfl) ?_
  refine lv_iload_n hx hb dL_registerByLog_3 rfl (lv_at hl 1 rfl) ?_
  refine k_xi (k_xV (As := [.int (x)]) (rest := [.int (nI (0)), .ref (ad 40 0)]) M hW hS (c_X4_registerByLog l hfl D Z N0 g ad x) (cwV 1 hts gL_registerByLog_X4_registerByLog rfl rfl rfl (by decide +kernel) ⟨Nat.le_of_ble_eq_true rfl, Nat.le_of_ble_eq_true rfl⟩) (r_recv M.2 hW 0 0 (lv0 _) rfl rfl) rfl hl.1 rfl (Nat.le_of_ble_eq_true rfl) dL_registerByLog_4 ⟨Nat.le_of_ble_eq_true rfl, Nat.le_of_ble_eq_true rfl⟩) hS (fun E ce q9 H locs hp hW hS hq9 => ?_) (fun r2_z g1_z H locs hp hW hS => ?_)
  · obtain ⟨rfl, hx9⟩ := hp
    refine vx_catch (own := RL) (name := "java/lang/IndexOutOfBoundsException") hown [] (⟨0, 9, 12, 25⟩ : ExceptionTableEntry) [] htab (fun z h => absurd h (List.not_mem_nil)) (by decide) (by decide) (hts _ w_Cond_classLink_RL_25__java_lang_IndexOutOfBoundsException_) (va_Nw.use rfl (hC.2.2.2.2.1 ("java/lang/IndexOutOfBoundsException", "java/lang/IndexOutOfBoundsException") (by decide))) hq9.1 hq9.2.1 hq9.2.2 ?_
    refine lv_astore_n (lv' := [(3, .ref q9), (0, .ref (ad 0 0)), (1, .int (x)), (2, .ref (ad 40 0))]) hx hb dL_registerByLog_12 rfl hl (by decide) rfl (fun ls hl => ?_)
    refine lv_iconst (v := nI 1) hx hb dL_registerByLog_13 (by decide) ?_
    refine W.widen (k := 1) (n := 6) (Nat.le_of_ble_eq_true rfl) (Nat.le_of_ble_eq_true rfl) ?_
    -- path 1
    exact W.iret (v := nI (1)) hx hb hr (fun t ht hW9 => ⟨⟨nI (1), g, rfl, ⟨hf, Or.inr (⟨rfl, rfl, hx9⟩)⟩, (show Wd D Z N0 g ad t.heap by rw [ht]; exact hW)⟩, hS.F ht⟩) hS.2.2 dL_registerByLog_14
  · obtain ⟨hf1, hp⟩ := hp
    have hf : Fr g g1_z := hf.trans hf1
    have hp9 := hp
    obtain ⟨n9, hn9⟩ := lN_all (r2_z).toInt64
    refine lv_i2l hx hb dL_registerByLog_7 hn9 ?_
    refine r_lst M hW hS dL_registerByLog_8 (fun H locs hW hS => ?_)
    obtain ⟨g3_z, eg3_z⟩ : ∃ z, z = up g1_z 40 0 0 n9 := ⟨_, rfl⟩
    rw [← eg3_z] at hW
    have hf : Fr g g3_z := by rw [eg3_z]; exact hf.up rfl
    refine lv_goto (tgt := 15) hx hb dL_registerByLog_9 (by decide) ?_
    refine lv_iconst (v := nI 0) hx hb dL_registerByLog_15 (by decide) ?_
    refine W.widen (k := 1) (n := 6) (Nat.le_of_ble_eq_true rfl) (Nat.le_of_ble_eq_true rfl) ?_
    -- path 2
    exact W.iret (v := nI (0)) hx hb hr (fun t ht hW9 => ⟨⟨nI (0), g3_z, rfl, ⟨hf, Or.inl (⟨rfl, r2_z, g1_z, hp9, ⟨n9, hn9, eg3_z⟩⟩)⟩, (show Wd D Z N0 g3_z ad t.heap by rw [ht]; exact hW)⟩, hS.F ht⟩) hS.2.2 dL_registerByLog_16

set_option maxHeartbeats 4000000 in
set_option maxRecDepth 100000 in
theorem c_L_forecast (l : Launch) (hfl : l.stackTraces = false) (D : va_G) (Z : Nat → Nat) (N0 : Nat) (g : T3) (ad : T2) (x : Int32) : Met l yL_forecast wsL_forecast ({ frames := 7, cells := 1, slots := 6, locals := 340 } : Room) (PC D Z N0 g ad [.ref (ad 0 0), .int (x), .ref (ad 40 0)]) (QI D Z N0 ad (fun (r : Int32) (g1 : T3) => Fr g g1 ∧ ((r = nI 0 ∧ ∃ r9 g2, (∃ i, i < 3 ∧ x = nI i ∧ ¬ g 3 0 2 = 0 ∧ r9 = nI (sInto g 1 6 1 i) ∧ g2 = sInto g 1) ∧ ∃ n9, r9.toInt64 = lN n9 ∧ g1 = up g2 40 0 0 n9) ∨ (r = nI 1 ∧ g = g1 ∧ (¬ Ix 3 x)) ∨ (r = nI 2 ∧ g = g1 ∧ (Ix 3 x ∧ g 3 0 2 = 0))))) 1 6 (AA N0) := by
  refine va_MetW (cc := cL_forecast) (maxL := 4) (ret := (some .int)) (by decide) rfl ?_
  intro pP eP sP mP args below meth cP s₁ B hmlP hvP
  obtain ⟨rfl, hW, hC⟩ := hvP
  have hx := B.exec
  have hb := B.bytes
  have hr := B.returns
  have hts := atoms_spec (ws := wsL_forecast) B.pre
  have hown : sP.vm.findClass RL = some mP.cls := findClass_of_methodNamed B.named
  have hlocks := B.notSynchronized
  have w_Cond_classLink_RL_25__java_lang_IndexOutOfBoundsException_ : Cond.classLink RL 25 "java/lang/IndexOutOfBoundsException" ∈ wsL_forecast := by decide +kernel
  have w_Cond_classLink_RL_19__java_lang_IllegalStateException_ : Cond.classLink RL 19 "java/lang/IllegalStateException" ∈ wsL_forecast := by decide +kernel
  have M : Mx pP mP cP cL_forecast 4 sP ([.ref (ad 0 0), .int (x), .ref (ad 40 0)] : List Value).toArray wsL_forecast RL D Z N0 := ⟨⟨hx, hb, hmlP, hown, hts⟩, hC⟩
  have hf : Fr g g := Fr.rf g
  have hS : va_S (AA N0) sP.heap sP.heap [] := va_S.rf
  have hl := lv_entry ([.ref (ad 0 0), .int (x), .ref (ad 40 0)]) (n := 4) (Nat.le_of_ble_eq_true rfl)
  rw [lg_entry_eq]
  generalize (lg_sl ([.ref (ad 0 0), .int (x), .ref (ad 40 0)]) ++ List.replicate (4 - (lg_sl ([.ref (ad 0 0), .int (x), .ref (ad 40 0)])).length) Slot.unset).toArray = ls at hl ⊢
  have hl : lv_has ls 4 [(0, .ref (ad 0 0)), (1, .int (x)), (2, .ref (ad 40 0))] := hl
  have htab : cP.exceptionTable.toList = [(⟨0, 9, 12, 25⟩ : ExceptionTableEntry), (⟨0, 9, 15, 19⟩ : ExceptionTableEntry)] := vx_table (x := yL_forecast) B (hts _ (show _ ∈ wsL_forecast from List.mem_cons_self))
  have hsc8 := hW.2.2.1.le 3 1 2 7 rfl
  refine lv_aload_n hx hb dL_forecast_0 rfl (lv_at hl 2 rfl) ?_
  refine lv_iconst (v := nI 0) hx hb dL_forecast_1 (by decide) ?_
  refine lv_aload_n hx hb dL_forecast_2 rfl (lv_at hl 0 rfl) ?_
  refine lv_iload_n hx hb dL_forecast_3 rfl (lv_at hl 1 rfl) ?_
  refine k_xi (k_xV (As := [.int (x)]) (rest := [.int (nI (0)), .ref (ad 40 0)]) M hW hS (c_X4_forecast l hfl D Z N0 g ad x) (cwV 1 hts gL_forecast_X4_forecast rfl rfl rfl (by decide +kernel) ⟨Nat.le_of_ble_eq_true rfl, Nat.le_of_ble_eq_true rfl⟩) (r_recv M.2 hW 0 0 (lv0 _) rfl rfl) rfl hl.1 rfl (Nat.le_of_ble_eq_true rfl) dL_forecast_4 ⟨Nat.le_of_ble_eq_true rfl, Nat.le_of_ble_eq_true rfl⟩) hS (fun E ce q9 H locs hp hW hS hq9 => ?_) (fun r2_z g1_z H locs hp hW hS => ?_)
  · rcases hp with ⟨rfl, hx9⟩ | ⟨rfl, hx9⟩
    · refine vx_catch (own := RL) (name := "java/lang/IndexOutOfBoundsException") hown [] (⟨0, 9, 12, 25⟩ : ExceptionTableEntry) [(⟨0, 9, 15, 19⟩ : ExceptionTableEntry)] htab (fun z h => absurd h (List.not_mem_nil)) (by decide) (by decide) (hts _ w_Cond_classLink_RL_25__java_lang_IndexOutOfBoundsException_) (va_Nw.use rfl (hC.2.2.2.2.1 ("java/lang/IndexOutOfBoundsException", "java/lang/IndexOutOfBoundsException") (by decide))) hq9.1 hq9.2.1 hq9.2.2 ?_
      refine lv_astore_n (lv' := [(3, .ref q9), (0, .ref (ad 0 0)), (1, .int (x)), (2, .ref (ad 40 0))]) hx hb dL_forecast_12 rfl hl (by decide) rfl (fun ls hl => ?_)
      refine lv_iconst (v := nI 1) hx hb dL_forecast_13 (by decide) ?_
      refine W.widen (k := 1) (n := 6) (Nat.le_of_ble_eq_true rfl) (Nat.le_of_ble_eq_true rfl) ?_
      -- path 1
      exact W.iret (v := nI (1)) hx hb hr (fun t ht hW9 => ⟨⟨nI (1), g, rfl, ⟨hf, Or.inr (Or.inl (⟨rfl, rfl, hx9⟩))⟩, (show Wd D Z N0 g ad t.heap by rw [ht]; exact hW)⟩, hS.F ht⟩) hS.2.2 dL_forecast_14
    · refine vx_catch (own := RL) (name := "java/lang/IllegalStateException") hown [(⟨0, 9, 12, 25⟩ : ExceptionTableEntry)] (⟨0, 9, 15, 19⟩ : ExceptionTableEntry) [] htab (fun z h => (List.mem_cons.mp h).elim (fun h9 => h9 ▸ Or.inr ⟨by decide, "java/lang/IndexOutOfBoundsException", hts _ w_Cond_classLink_RL_25__java_lang_IndexOutOfBoundsException_, hC.2.2.2.2.2.2.1 ("java/lang/IllegalStateException", "java/lang/IndexOutOfBoundsException") (by decide)⟩) (fun h => absurd h (List.not_mem_nil))) (by decide) (by decide) (hts _ w_Cond_classLink_RL_19__java_lang_IllegalStateException_) (va_Nw.use rfl (hC.2.2.2.2.1 ("java/lang/IllegalStateException", "java/lang/IllegalStateException") (by decide))) hq9.1 hq9.2.1 hq9.2.2 ?_
      refine lv_astore_n (lv' := [(3, .ref q9), (0, .ref (ad 0 0)), (1, .int (x)), (2, .ref (ad 40 0))]) hx hb dL_forecast_15 rfl hl (by decide) rfl (fun ls hl => ?_)
      refine lv_iconst (v := nI 2) hx hb dL_forecast_16 (by decide) ?_
      refine W.widen (k := 1) (n := 6) (Nat.le_of_ble_eq_true rfl) (Nat.le_of_ble_eq_true rfl) ?_
      -- path 2
      exact W.iret (v := nI (2)) hx hb hr (fun t ht hW9 => ⟨⟨nI (2), g, rfl, ⟨hf, Or.inr (Or.inr (⟨rfl, rfl, hx9⟩))⟩, (show Wd D Z N0 g ad t.heap by rw [ht]; exact hW)⟩, hS.F ht⟩) hS.2.2 dL_forecast_17
  · obtain ⟨hf1, hp⟩ := hp
    have hf : Fr g g1_z := hf.trans hf1
    have hp9 := hp
    obtain ⟨n9, hn9⟩ := lN_all (r2_z).toInt64
    refine lv_i2l hx hb dL_forecast_7 hn9 ?_
    refine r_lst M hW hS dL_forecast_8 (fun H locs hW hS => ?_)
    obtain ⟨g3_z, eg3_z⟩ : ∃ z, z = up g1_z 40 0 0 n9 := ⟨_, rfl⟩
    rw [← eg3_z] at hW
    have hf : Fr g g3_z := by rw [eg3_z]; exact hf.up rfl
    refine lv_goto (tgt := 18) hx hb dL_forecast_9 (by decide) ?_
    refine lv_iconst (v := nI 0) hx hb dL_forecast_18 (by decide) ?_
    refine W.widen (k := 1) (n := 6) (Nat.le_of_ble_eq_true rfl) (Nat.le_of_ble_eq_true rfl) ?_
    -- path 3
    exact W.iret (v := nI (0)) hx hb hr (fun t ht hW9 => ⟨⟨nI (0), g3_z, rfl, ⟨hf, Or.inl (⟨rfl, r2_z, g1_z, hp9, ⟨n9, hn9, eg3_z⟩⟩)⟩, (show Wd D Z N0 g3_z ad t.heap by rw [ht]; exact hW)⟩, hS.F ht⟩) hS.2.2 dL_forecast_19

set_option maxHeartbeats 4000000 in
set_option maxRecDepth 100000 in
theorem c_L_entry (l : Launch) (hfl : l.stackTraces = false) (D : va_G) (Z : Nat → Nat) (N0 : Nat) (g : T3) (ad : T2) (x : Int32) : Met l yL_entry wsL_entry ({ frames := 7, cells := 1, slots := 6, locals := 340 } : Room) (PC D Z N0 g ad [.ref (ad 0 0), .int (x), .ref (ad 40 0)]) (QI D Z N0 ad (fun (r : Int32) (g1 : T3) => Fr g g1 ∧ ((r = nI 0 ∧ ∃ r9 g2, (∃ i, i < g 5 0 2 ∧ x = nI i ∧ r9 = nI (g 7 0 i) ∧ g = g2) ∧ ∃ n9, r9.toInt64 = lN n9 ∧ g1 = up g2 40 0 0 n9) ∨ (r = nI 1 ∧ g = g1 ∧ (¬ Ix (g 5 0 2) x))))) 1 6 (AA N0) := by
  refine va_MetW (cc := cL_entry) (maxL := 4) (ret := (some .int)) (by decide) rfl ?_
  intro pP eP sP mP args below meth cP s₁ B hmlP hvP
  obtain ⟨rfl, hW, hC⟩ := hvP
  have hx := B.exec
  have hb := B.bytes
  have hr := B.returns
  have hts := atoms_spec (ws := wsL_entry) B.pre
  have hown : sP.vm.findClass RL = some mP.cls := findClass_of_methodNamed B.named
  have hlocks := B.notSynchronized
  have w_Cond_classLink_RL_25__java_lang_IndexOutOfBoundsException_ : Cond.classLink RL 25 "java/lang/IndexOutOfBoundsException" ∈ wsL_entry := by decide +kernel
  have M : Mx pP mP cP cL_entry 4 sP ([.ref (ad 0 0), .int (x), .ref (ad 40 0)] : List Value).toArray wsL_entry RL D Z N0 := ⟨⟨hx, hb, hmlP, hown, hts⟩, hC⟩
  have hf : Fr g g := Fr.rf g
  have hS : va_S (AA N0) sP.heap sP.heap [] := va_S.rf
  have hl := lv_entry ([.ref (ad 0 0), .int (x), .ref (ad 40 0)]) (n := 4) (Nat.le_of_ble_eq_true rfl)
  rw [lg_entry_eq]
  generalize (lg_sl ([.ref (ad 0 0), .int (x), .ref (ad 40 0)]) ++ List.replicate (4 - (lg_sl ([.ref (ad 0 0), .int (x), .ref (ad 40 0)])).length) Slot.unset).toArray = ls at hl ⊢
  have hl : lv_has ls 4 [(0, .ref (ad 0 0)), (1, .int (x)), (2, .ref (ad 40 0))] := hl
  have htab : cP.exceptionTable.toList = [(⟨0, 9, 12, 25⟩ : ExceptionTableEntry)] := vx_table (x := yL_entry) B (hts _ (show _ ∈ wsL_entry from List.mem_cons_self))
  have hsc8 := hW.2.2.1.le 3 1 2 7 rfl
  refine lv_aload_n hx hb dL_entry_0 rfl (lv_at hl 2 rfl) ?_
  refine lv_iconst (v := nI 0) hx hb dL_entry_1 (by decide) ?_
  refine lv_aload_n hx hb dL_entry_2 rfl (lv_at hl 0 rfl) ?_
  refine lv_iload_n hx hb dL_entry_3 rfl (lv_at hl 1 rfl) ?_
  refine k_xi (k_xV (As := [.int (x)]) (rest := [.int (nI (0)), .ref (ad 40 0)]) M hW hS (c_X4_entry l hfl D Z N0 g ad x) (cwV 1 hts gL_entry_X4_entry rfl rfl rfl (by decide +kernel) ⟨Nat.le_of_ble_eq_true rfl, Nat.le_of_ble_eq_true rfl⟩) (r_recv M.2 hW 0 0 (lv0 _) rfl rfl) rfl hl.1 rfl (Nat.le_of_ble_eq_true rfl) dL_entry_4 ⟨Nat.le_of_ble_eq_true rfl, Nat.le_of_ble_eq_true rfl⟩) hS (fun E ce q9 H locs hp hW hS hq9 => ?_) (fun r2_z g1_z H locs hp hW hS => ?_)
  · obtain ⟨rfl, hx9⟩ := hp
    refine vx_catch (own := RL) (name := "java/lang/IndexOutOfBoundsException") hown [] (⟨0, 9, 12, 25⟩ : ExceptionTableEntry) [] htab (fun z h => absurd h (List.not_mem_nil)) (by decide) (by decide) (hts _ w_Cond_classLink_RL_25__java_lang_IndexOutOfBoundsException_) (va_Nw.use rfl (hC.2.2.2.2.1 ("java/lang/IndexOutOfBoundsException", "java/lang/IndexOutOfBoundsException") (by decide))) hq9.1 hq9.2.1 hq9.2.2 ?_
    refine lv_astore_n (lv' := [(3, .ref q9), (0, .ref (ad 0 0)), (1, .int (x)), (2, .ref (ad 40 0))]) hx hb dL_entry_12 rfl hl (by decide) rfl (fun ls hl => ?_)
    refine lv_iconst (v := nI 1) hx hb dL_entry_13 (by decide) ?_
    refine W.widen (k := 1) (n := 6) (Nat.le_of_ble_eq_true rfl) (Nat.le_of_ble_eq_true rfl) ?_
    -- path 1
    exact W.iret (v := nI (1)) hx hb hr (fun t ht hW9 => ⟨⟨nI (1), g, rfl, ⟨hf, Or.inr (⟨rfl, rfl, hx9⟩)⟩, (show Wd D Z N0 g ad t.heap by rw [ht]; exact hW)⟩, hS.F ht⟩) hS.2.2 dL_entry_14
  · obtain ⟨hf1, hp⟩ := hp
    have hf : Fr g g1_z := hf.trans hf1
    have hp9 := hp
    obtain ⟨n9, hn9⟩ := lN_all (r2_z).toInt64
    refine lv_i2l hx hb dL_entry_7 hn9 ?_
    refine r_lst M hW hS dL_entry_8 (fun H locs hW hS => ?_)
    obtain ⟨g3_z, eg3_z⟩ : ∃ z, z = up g1_z 40 0 0 n9 := ⟨_, rfl⟩
    rw [← eg3_z] at hW
    have hf : Fr g g3_z := by rw [eg3_z]; exact hf.up rfl
    refine lv_goto (tgt := 15) hx hb dL_entry_9 (by decide) ?_
    refine lv_iconst (v := nI 0) hx hb dL_entry_15 (by decide) ?_
    refine W.widen (k := 1) (n := 6) (Nat.le_of_ble_eq_true rfl) (Nat.le_of_ble_eq_true rfl) ?_
    -- path 2
    exact W.iret (v := nI (0)) hx hb hr (fun t ht hW9 => ⟨⟨nI (0), g3_z, rfl, ⟨hf, Or.inl (⟨rfl, r2_z, g1_z, hp9, ⟨n9, hn9, eg3_z⟩⟩)⟩, (show Wd D Z N0 g3_z ad t.heap by rw [ht]; exact hW)⟩, hS.F ht⟩) hS.2.2 dL_entry_16

set_option maxHeartbeats 4000000 in
set_option maxRecDepth 100000 in
theorem c_L_sealAhead (l : Launch) (hfl : l.stackTraces = false) (D : va_G) (Z : Nat → Nat) (N0 : Nat) (g : T3) (ad : T2) (x : Int32) : Met l yL_sealAhead wsL_sealAhead ({ frames := 8, cells := 2, slots := 12, locals := 380 } : Room) (PC D Z N0 g ad [.ref (ad 0 0), .int (x), .ref (ad 40 0)]) (QI D Z N0 ad (fun (r : Int32) (g1 : T3) => Fr g g1 ∧ ((r = nI 0 ∧ ∃ r9 g2, (∃ j, j < g 3 1 2 ∧ x = nI j ∧ isO g j ∧ r9 = nI (oth (sInto g 1) j 1) ∧ g2 = bnT (sInto g 1) j 1) ∧ ∃ n9, r9.toInt64 = lN n9 ∧ g1 = up g2 40 0 0 n9) ∨ (r = nI 1 ∧ g = g1 ∧ (¬ Ix (g 3 1 2) x)) ∨ (r = nI 2 ∧ g = g1 ∧ (∃ j, j < g 3 1 2 ∧ x = nI j ∧ ¬ isO g j))))) 2 12 (AA N0) := by
  refine va_MetW (cc := cL_sealAhead) (maxL := 4) (ret := (some .int)) (by decide) rfl ?_
  intro pP eP sP mP args below meth cP s₁ B hmlP hvP
  obtain ⟨rfl, hW, hC⟩ := hvP
  have hx := B.exec
  have hb := B.bytes
  have hr := B.returns
  have hts := atoms_spec (ws := wsL_sealAhead) B.pre
  have hown : sP.vm.findClass RL = some mP.cls := findClass_of_methodNamed B.named
  have hlocks := B.notSynchronized
  have w_Cond_classLink_RL_25__java_lang_IndexOutOfBoundsException_ : Cond.classLink RL 25 "java/lang/IndexOutOfBoundsException" ∈ wsL_sealAhead := by decide +kernel
  have w_Cond_classLink_RL_19__java_lang_IllegalStateException_ : Cond.classLink RL 19 "java/lang/IllegalStateException" ∈ wsL_sealAhead := by decide +kernel
  have M : Mx pP mP cP cL_sealAhead 4 sP ([.ref (ad 0 0), .int (x), .ref (ad 40 0)] : List Value).toArray wsL_sealAhead RL D Z N0 := ⟨⟨hx, hb, hmlP, hown, hts⟩, hC⟩
  have hf : Fr g g := Fr.rf g
  have hS : va_S (AA N0) sP.heap sP.heap [] := va_S.rf
  have hl := lv_entry ([.ref (ad 0 0), .int (x), .ref (ad 40 0)]) (n := 4) (Nat.le_of_ble_eq_true rfl)
  rw [lg_entry_eq]
  generalize (lg_sl ([.ref (ad 0 0), .int (x), .ref (ad 40 0)]) ++ List.replicate (4 - (lg_sl ([.ref (ad 0 0), .int (x), .ref (ad 40 0)])).length) Slot.unset).toArray = ls at hl ⊢
  have hl : lv_has ls 4 [(0, .ref (ad 0 0)), (1, .int (x)), (2, .ref (ad 40 0))] := hl
  have htab : cP.exceptionTable.toList = [(⟨0, 9, 12, 25⟩ : ExceptionTableEntry), (⟨0, 9, 15, 19⟩ : ExceptionTableEntry)] := vx_table (x := yL_sealAhead) B (hts _ (show _ ∈ wsL_sealAhead from List.mem_cons_self))
  have hsc8 := hW.2.2.1.le 3 1 2 7 rfl
  refine lv_aload_n hx hb dL_sealAhead_0 rfl (lv_at hl 2 rfl) ?_
  refine lv_iconst (v := nI 0) hx hb dL_sealAhead_1 (by decide) ?_
  refine lv_aload_n hx hb dL_sealAhead_2 rfl (lv_at hl 0 rfl) ?_
  refine lv_iload_n hx hb dL_sealAhead_3 rfl (lv_at hl 1 rfl) ?_
  refine k_xi (k_xV (As := [.int (x)]) (rest := [.int (nI (0)), .ref (ad 40 0)]) M hW hS (c_X4_sealAhead l hfl D Z N0 g ad x) (cwV 1 hts gL_sealAhead_X4_sealAhead rfl rfl rfl (by decide +kernel) ⟨Nat.le_of_ble_eq_true rfl, Nat.le_of_ble_eq_true rfl⟩) (r_recv M.2 hW 0 0 (lv0 _) rfl rfl) rfl hl.1 rfl (Nat.le_of_ble_eq_true rfl) dL_sealAhead_4 ⟨Nat.le_of_ble_eq_true rfl, Nat.le_of_ble_eq_true rfl⟩) hS (fun E ce q9 H locs hp hW hS hq9 => ?_) (fun r2_z g1_z H locs hp hW hS => ?_)
  · rcases hp with ⟨rfl, hx9⟩ | ⟨rfl, hx9⟩
    · refine vx_catch (own := RL) (name := "java/lang/IndexOutOfBoundsException") hown [] (⟨0, 9, 12, 25⟩ : ExceptionTableEntry) [(⟨0, 9, 15, 19⟩ : ExceptionTableEntry)] htab (fun z h => absurd h (List.not_mem_nil)) (by decide) (by decide) (hts _ w_Cond_classLink_RL_25__java_lang_IndexOutOfBoundsException_) (va_Nw.use rfl (hC.2.2.2.2.1 ("java/lang/IndexOutOfBoundsException", "java/lang/IndexOutOfBoundsException") (by decide))) hq9.1 hq9.2.1 hq9.2.2 ?_
      refine lv_astore_n (lv' := [(3, .ref q9), (0, .ref (ad 0 0)), (1, .int (x)), (2, .ref (ad 40 0))]) hx hb dL_sealAhead_12 rfl hl (by decide) rfl (fun ls hl => ?_)
      refine lv_iconst (v := nI 1) hx hb dL_sealAhead_13 (by decide) ?_
      refine W.widen (k := 2) (n := 12) (Nat.le_of_ble_eq_true rfl) (Nat.le_of_ble_eq_true rfl) ?_
      -- path 1
      exact W.iret (v := nI (1)) hx hb hr (fun t ht hW9 => ⟨⟨nI (1), g, rfl, ⟨hf, Or.inr (Or.inl (⟨rfl, rfl, hx9⟩))⟩, (show Wd D Z N0 g ad t.heap by rw [ht]; exact hW)⟩, hS.F ht⟩) hS.2.2 dL_sealAhead_14
    · refine vx_catch (own := RL) (name := "java/lang/IllegalStateException") hown [(⟨0, 9, 12, 25⟩ : ExceptionTableEntry)] (⟨0, 9, 15, 19⟩ : ExceptionTableEntry) [] htab (fun z h => (List.mem_cons.mp h).elim (fun h9 => h9 ▸ Or.inr ⟨by decide, "java/lang/IndexOutOfBoundsException", hts _ w_Cond_classLink_RL_25__java_lang_IndexOutOfBoundsException_, hC.2.2.2.2.2.2.1 ("java/lang/IllegalStateException", "java/lang/IndexOutOfBoundsException") (by decide)⟩) (fun h => absurd h (List.not_mem_nil))) (by decide) (by decide) (hts _ w_Cond_classLink_RL_19__java_lang_IllegalStateException_) (va_Nw.use rfl (hC.2.2.2.2.1 ("java/lang/IllegalStateException", "java/lang/IllegalStateException") (by decide))) hq9.1 hq9.2.1 hq9.2.2 ?_
      refine lv_astore_n (lv' := [(3, .ref q9), (0, .ref (ad 0 0)), (1, .int (x)), (2, .ref (ad 40 0))]) hx hb dL_sealAhead_15 rfl hl (by decide) rfl (fun ls hl => ?_)
      refine lv_iconst (v := nI 2) hx hb dL_sealAhead_16 (by decide) ?_
      refine W.widen (k := 2) (n := 12) (Nat.le_of_ble_eq_true rfl) (Nat.le_of_ble_eq_true rfl) ?_
      -- path 2
      exact W.iret (v := nI (2)) hx hb hr (fun t ht hW9 => ⟨⟨nI (2), g, rfl, ⟨hf, Or.inr (Or.inr (⟨rfl, rfl, hx9⟩))⟩, (show Wd D Z N0 g ad t.heap by rw [ht]; exact hW)⟩, hS.F ht⟩) hS.2.2 dL_sealAhead_17
  · obtain ⟨hf1, hp⟩ := hp
    have hf : Fr g g1_z := hf.trans hf1
    have hp9 := hp
    obtain ⟨n9, hn9⟩ := lN_all (r2_z).toInt64
    refine lv_i2l hx hb dL_sealAhead_7 hn9 ?_
    refine r_lst M hW hS dL_sealAhead_8 (fun H locs hW hS => ?_)
    obtain ⟨g3_z, eg3_z⟩ : ∃ z, z = up g1_z 40 0 0 n9 := ⟨_, rfl⟩
    rw [← eg3_z] at hW
    have hf : Fr g g3_z := by rw [eg3_z]; exact hf.up rfl
    refine lv_goto (tgt := 18) hx hb dL_sealAhead_9 (by decide) ?_
    refine lv_iconst (v := nI 0) hx hb dL_sealAhead_18 (by decide) ?_
    refine W.widen (k := 2) (n := 12) (Nat.le_of_ble_eq_true rfl) (Nat.le_of_ble_eq_true rfl) ?_
    -- path 3
    exact W.iret (v := nI (0)) hx hb hr (fun t ht hW9 => ⟨⟨nI (0), g3_z, rfl, ⟨hf, Or.inl (⟨rfl, r2_z, g1_z, hp9, ⟨n9, hn9, eg3_z⟩⟩)⟩, (show Wd D Z N0 g3_z ad t.heap by rw [ht]; exact hW)⟩, hS.F ht⟩) hS.2.2 dL_sealAhead_19

set_option maxHeartbeats 4000000 in
set_option maxRecDepth 100000 in
theorem c_L_opens (l : Launch) (hfl : l.stackTraces = false) (D : va_G) (Z : Nat → Nat) (N0 : Nat) (g : T3) (ad : T2) (x : Int32) : Met l yL_opens wsL_opens ({ frames := 8, cells := 1, slots := 6, locals := 380 } : Room) (PC D Z N0 g ad [.ref (ad 0 0), .int (x), .ref (ad 40 0)]) (QI D Z N0 ad (fun (r : Int32) (g1 : T3) => Fr g g1 ∧ ((r = nI 0 ∧ ∃ r9 g2, (∃ j, j < g 3 1 2 ∧ x = nI j ∧ bP r9 (isO g j) ∧ g = g2) ∧ g1 = up g2 40 0 0 (if r9 = 0 then 0 else 1)) ∨ (r = nI 1 ∧ g = g1 ∧ (¬ Ix (g 3 1 2) x))))) 1 6 (AA N0) := by
  refine va_MetW (cc := cL_opens) (maxL := 4) (ret := (some .int)) (by decide) rfl ?_
  intro pP eP sP mP args below meth cP s₁ B hmlP hvP
  obtain ⟨rfl, hW, hC⟩ := hvP
  have hx := B.exec
  have hb := B.bytes
  have hr := B.returns
  have hts := atoms_spec (ws := wsL_opens) B.pre
  have hown : sP.vm.findClass RL = some mP.cls := findClass_of_methodNamed B.named
  have hlocks := B.notSynchronized
  have w_Cond_classLink_RL_25__java_lang_IndexOutOfBoundsException_ : Cond.classLink RL 25 "java/lang/IndexOutOfBoundsException" ∈ wsL_opens := by decide +kernel
  have M : Mx pP mP cP cL_opens 4 sP ([.ref (ad 0 0), .int (x), .ref (ad 40 0)] : List Value).toArray wsL_opens RL D Z N0 := ⟨⟨hx, hb, hmlP, hown, hts⟩, hC⟩
  have hf : Fr g g := Fr.rf g
  have hS : va_S (AA N0) sP.heap sP.heap [] := va_S.rf
  have hl := lv_entry ([.ref (ad 0 0), .int (x), .ref (ad 40 0)]) (n := 4) (Nat.le_of_ble_eq_true rfl)
  rw [lg_entry_eq]
  generalize (lg_sl ([.ref (ad 0 0), .int (x), .ref (ad 40 0)]) ++ List.replicate (4 - (lg_sl ([.ref (ad 0 0), .int (x), .ref (ad 40 0)])).length) Slot.unset).toArray = ls at hl ⊢
  have hl : lv_has ls 4 [(0, .ref (ad 0 0)), (1, .int (x)), (2, .ref (ad 40 0))] := hl
  have htab : cP.exceptionTable.toList = [(⟨0, 16, 19, 25⟩ : ExceptionTableEntry)] := vx_table (x := yL_opens) B (hts _ (show _ ∈ wsL_opens from List.mem_cons_self))
  have hsc8 := hW.2.2.1.le 3 1 2 7 rfl
  refine lv_aload_n hx hb dL_opens_0 rfl (lv_at hl 2 rfl) ?_
  refine lv_iconst (v := nI 0) hx hb dL_opens_1 (by decide) ?_
  refine lv_aload_n hx hb dL_opens_2 rfl (lv_at hl 0 rfl) ?_
  refine lv_iload_n hx hb dL_opens_3 rfl (lv_at hl 1 rfl) ?_
  refine k_xi (k_xV (As := [.int (x)]) (rest := [.int (nI (0)), .ref (ad 40 0)]) M hW hS (c_X4_opens l hfl D Z N0 g ad x) (cwV 1 hts gL_opens_X4_opens rfl rfl rfl (by decide +kernel) ⟨Nat.le_of_ble_eq_true rfl, Nat.le_of_ble_eq_true rfl⟩) (r_recv M.2 hW 0 0 (lv0 _) rfl rfl) rfl hl.1 rfl (Nat.le_of_ble_eq_true rfl) dL_opens_4 ⟨Nat.le_of_ble_eq_true rfl, Nat.le_of_ble_eq_true rfl⟩) hS (fun E ce q9 H locs hp hW hS hq9 => ?_) (fun r2_z g1_z H locs hp hW hS => ?_)
  · obtain ⟨rfl, hx9⟩ := hp
    refine vx_catch (own := RL) (name := "java/lang/IndexOutOfBoundsException") hown [] (⟨0, 16, 19, 25⟩ : ExceptionTableEntry) [] htab (fun z h => absurd h (List.not_mem_nil)) (by decide) (by decide) (hts _ w_Cond_classLink_RL_25__java_lang_IndexOutOfBoundsException_) (va_Nw.use rfl (hC.2.2.2.2.1 ("java/lang/IndexOutOfBoundsException", "java/lang/IndexOutOfBoundsException") (by decide))) hq9.1 hq9.2.1 hq9.2.2 ?_
    refine lv_astore_n (lv' := [(3, .ref q9), (0, .ref (ad 0 0)), (1, .int (x)), (2, .ref (ad 40 0))]) hx hb dL_opens_19 rfl hl (by decide) rfl (fun ls hl => ?_)
    refine lv_iconst (v := nI 1) hx hb dL_opens_20 (by decide) ?_
    refine W.widen (k := 1) (n := 6) (Nat.le_of_ble_eq_true rfl) (Nat.le_of_ble_eq_true rfl) ?_
    -- path 1
    exact W.iret (v := nI (1)) hx hb hr (fun t ht hW9 => ⟨⟨nI (1), g, rfl, ⟨hf, Or.inr (⟨rfl, rfl, hx9⟩)⟩, (show Wd D Z N0 g ad t.heap by rw [ht]; exact hW)⟩, hS.F ht⟩) hS.2.2 dL_opens_21
  · obtain ⟨hf1, hp⟩ := hp
    have hf : Fr g g1_z := hf.trans hf1
    have hp9 := hp
    refine lv_if_eq (tgt := 14) hx hb dL_opens_7 (by decide) (fun c3_z => ?_) (fun c3_z => ?_)
    · refine lv_lconst (v := lN 0) hx hb dL_opens_14 rfl ?_
      refine r_lst M hW hS dL_opens_15 (fun H locs hW hS => ?_)
      obtain ⟨g4_z, eg4_z⟩ : ∃ z, z = up g1_z 40 0 0 0 := ⟨_, rfl⟩
      rw [← eg4_z] at hW
      have hf : Fr g g4_z := by rw [eg4_z]; exact hf.up rfl
      refine lv_goto (tgt := 22) hx hb dL_opens_16 (by decide) ?_
      refine lv_iconst (v := nI 0) hx hb dL_opens_22 (by decide) ?_
      refine W.widen (k := 1) (n := 6) (Nat.le_of_ble_eq_true rfl) (Nat.le_of_ble_eq_true rfl) ?_
      -- path 2
      exact W.iret (v := nI (0)) hx hb hr (fun t ht hW9 => ⟨⟨nI (0), g4_z, rfl, ⟨hf, Or.inl (⟨rfl, r2_z, g1_z, hp9, (by rw [eg4_z, if_pos c3_z])⟩)⟩, (show Wd D Z N0 g4_z ad t.heap by rw [ht]; exact hW)⟩, hS.F ht⟩) hS.2.2 dL_opens_23
    · refine lv_lconst (v := lN 1) hx hb dL_opens_10 rfl ?_
      refine lv_goto (tgt := 15) hx hb dL_opens_11 (by decide) ?_
      refine r_lst M hW hS dL_opens_15 (fun H locs hW hS => ?_)
      obtain ⟨g5_z, eg5_z⟩ : ∃ z, z = up g1_z 40 0 0 1 := ⟨_, rfl⟩
      rw [← eg5_z] at hW
      have hf : Fr g g5_z := by rw [eg5_z]; exact hf.up rfl
      refine lv_goto (tgt := 22) hx hb dL_opens_16 (by decide) ?_
      refine lv_iconst (v := nI 0) hx hb dL_opens_22 (by decide) ?_
      refine W.widen (k := 1) (n := 6) (Nat.le_of_ble_eq_true rfl) (Nat.le_of_ble_eq_true rfl) ?_
      -- path 3
      exact W.iret (v := nI (0)) hx hb hr (fun t ht hW9 => ⟨⟨nI (0), g5_z, rfl, ⟨hf, Or.inl (⟨rfl, r2_z, g1_z, hp9, (by rw [eg5_z, if_neg c3_z])⟩)⟩, (show Wd D Z N0 g5_z ad t.heap by rw [ht]; exact hW)⟩, hS.F ht⟩) hS.2.2 dL_opens_23

set_option maxHeartbeats 4000000 in
set_option maxRecDepth 100000 in
theorem c_L_isLost (l : Launch) (hfl : l.stackTraces = false) (D : va_G) (Z : Nat → Nat) (N0 : Nat) (g : T3) (ad : T2) (x : Int32) : Met l yL_isLost wsL_isLost ({ frames := 8, cells := 1, slots := 6, locals := 380 } : Room) (PC D Z N0 g ad [.ref (ad 0 0), .int (x), .ref (ad 40 0)]) (QI D Z N0 ad (fun (r : Int32) (g1 : T3) => Fr g g1 ∧ ((r = nI 0 ∧ ∃ r9 g2, (∃ j, j < g 3 1 2 ∧ x = nI j ∧ bP r9 (¬ (sInto g 1 5 1 5 = sInto g 1 3 0 2 ∧ oth (sInto g 1) j 1 = 0)) ∧ g2 = sInto g 1) ∧ g1 = up g2 40 0 0 (if r9 = 0 then 0 else 1)) ∨ (r = nI 1 ∧ g = g1 ∧ (¬ Ix (g 3 1 2) x))))) 1 6 (AA N0) := by
  refine va_MetW (cc := cL_isLost) (maxL := 4) (ret := (some .int)) (by decide) rfl ?_
  intro pP eP sP mP args below meth cP s₁ B hmlP hvP
  obtain ⟨rfl, hW, hC⟩ := hvP
  have hx := B.exec
  have hb := B.bytes
  have hr := B.returns
  have hts := atoms_spec (ws := wsL_isLost) B.pre
  have hown : sP.vm.findClass RL = some mP.cls := findClass_of_methodNamed B.named
  have hlocks := B.notSynchronized
  have w_Cond_classLink_RL_25__java_lang_IndexOutOfBoundsException_ : Cond.classLink RL 25 "java/lang/IndexOutOfBoundsException" ∈ wsL_isLost := by decide +kernel
  have M : Mx pP mP cP cL_isLost 4 sP ([.ref (ad 0 0), .int (x), .ref (ad 40 0)] : List Value).toArray wsL_isLost RL D Z N0 := ⟨⟨hx, hb, hmlP, hown, hts⟩, hC⟩
  have hf : Fr g g := Fr.rf g
  have hS : va_S (AA N0) sP.heap sP.heap [] := va_S.rf
  have hl := lv_entry ([.ref (ad 0 0), .int (x), .ref (ad 40 0)]) (n := 4) (Nat.le_of_ble_eq_true rfl)
  rw [lg_entry_eq]
  generalize (lg_sl ([.ref (ad 0 0), .int (x), .ref (ad 40 0)]) ++ List.replicate (4 - (lg_sl ([.ref (ad 0 0), .int (x), .ref (ad 40 0)])).length) Slot.unset).toArray = ls at hl ⊢
  have hl : lv_has ls 4 [(0, .ref (ad 0 0)), (1, .int (x)), (2, .ref (ad 40 0))] := hl
  have htab : cP.exceptionTable.toList = [(⟨0, 16, 19, 25⟩ : ExceptionTableEntry)] := vx_table (x := yL_isLost) B (hts _ (show _ ∈ wsL_isLost from List.mem_cons_self))
  have hsc8 := hW.2.2.1.le 3 1 2 7 rfl
  refine lv_aload_n hx hb dL_isLost_0 rfl (lv_at hl 2 rfl) ?_
  refine lv_iconst (v := nI 0) hx hb dL_isLost_1 (by decide) ?_
  refine lv_aload_n hx hb dL_isLost_2 rfl (lv_at hl 0 rfl) ?_
  refine lv_iload_n hx hb dL_isLost_3 rfl (lv_at hl 1 rfl) ?_
  refine k_xi (k_xV (As := [.int (x)]) (rest := [.int (nI (0)), .ref (ad 40 0)]) M hW hS (c_X4_isLost l hfl D Z N0 g ad x) (cwV 1 hts gL_isLost_X4_isLost rfl rfl rfl (by decide +kernel) ⟨Nat.le_of_ble_eq_true rfl, Nat.le_of_ble_eq_true rfl⟩) (r_recv M.2 hW 0 0 (lv0 _) rfl rfl) rfl hl.1 rfl (Nat.le_of_ble_eq_true rfl) dL_isLost_4 ⟨Nat.le_of_ble_eq_true rfl, Nat.le_of_ble_eq_true rfl⟩) hS (fun E ce q9 H locs hp hW hS hq9 => ?_) (fun r2_z g1_z H locs hp hW hS => ?_)
  · obtain ⟨rfl, hx9⟩ := hp
    refine vx_catch (own := RL) (name := "java/lang/IndexOutOfBoundsException") hown [] (⟨0, 16, 19, 25⟩ : ExceptionTableEntry) [] htab (fun z h => absurd h (List.not_mem_nil)) (by decide) (by decide) (hts _ w_Cond_classLink_RL_25__java_lang_IndexOutOfBoundsException_) (va_Nw.use rfl (hC.2.2.2.2.1 ("java/lang/IndexOutOfBoundsException", "java/lang/IndexOutOfBoundsException") (by decide))) hq9.1 hq9.2.1 hq9.2.2 ?_
    refine lv_astore_n (lv' := [(3, .ref q9), (0, .ref (ad 0 0)), (1, .int (x)), (2, .ref (ad 40 0))]) hx hb dL_isLost_19 rfl hl (by decide) rfl (fun ls hl => ?_)
    refine lv_iconst (v := nI 1) hx hb dL_isLost_20 (by decide) ?_
    refine W.widen (k := 1) (n := 6) (Nat.le_of_ble_eq_true rfl) (Nat.le_of_ble_eq_true rfl) ?_
    -- path 1
    exact W.iret (v := nI (1)) hx hb hr (fun t ht hW9 => ⟨⟨nI (1), g, rfl, ⟨hf, Or.inr (⟨rfl, rfl, hx9⟩)⟩, (show Wd D Z N0 g ad t.heap by rw [ht]; exact hW)⟩, hS.F ht⟩) hS.2.2 dL_isLost_21
  · obtain ⟨hf1, hp⟩ := hp
    have hf : Fr g g1_z := hf.trans hf1
    have hp9 := hp
    refine lv_if_eq (tgt := 14) hx hb dL_isLost_7 (by decide) (fun c3_z => ?_) (fun c3_z => ?_)
    · refine lv_lconst (v := lN 0) hx hb dL_isLost_14 rfl ?_
      refine r_lst M hW hS dL_isLost_15 (fun H locs hW hS => ?_)
      obtain ⟨g4_z, eg4_z⟩ : ∃ z, z = up g1_z 40 0 0 0 := ⟨_, rfl⟩
      rw [← eg4_z] at hW
      have hf : Fr g g4_z := by rw [eg4_z]; exact hf.up rfl
      refine lv_goto (tgt := 22) hx hb dL_isLost_16 (by decide) ?_
      refine lv_iconst (v := nI 0) hx hb dL_isLost_22 (by decide) ?_
      refine W.widen (k := 1) (n := 6) (Nat.le_of_ble_eq_true rfl) (Nat.le_of_ble_eq_true rfl) ?_
      -- path 2
      exact W.iret (v := nI (0)) hx hb hr (fun t ht hW9 => ⟨⟨nI (0), g4_z, rfl, ⟨hf, Or.inl (⟨rfl, r2_z, g1_z, hp9, (by rw [eg4_z, if_pos c3_z])⟩)⟩, (show Wd D Z N0 g4_z ad t.heap by rw [ht]; exact hW)⟩, hS.F ht⟩) hS.2.2 dL_isLost_23
    · refine lv_lconst (v := lN 1) hx hb dL_isLost_10 rfl ?_
      refine lv_goto (tgt := 15) hx hb dL_isLost_11 (by decide) ?_
      refine r_lst M hW hS dL_isLost_15 (fun H locs hW hS => ?_)
      obtain ⟨g5_z, eg5_z⟩ : ∃ z, z = up g1_z 40 0 0 1 := ⟨_, rfl⟩
      rw [← eg5_z] at hW
      have hf : Fr g g5_z := by rw [eg5_z]; exact hf.up rfl
      refine lv_goto (tgt := 22) hx hb dL_isLost_16 (by decide) ?_
      refine lv_iconst (v := nI 0) hx hb dL_isLost_22 (by decide) ?_
      refine W.widen (k := 1) (n := 6) (Nat.le_of_ble_eq_true rfl) (Nat.le_of_ble_eq_true rfl) ?_
      -- path 3
      exact W.iret (v := nI (0)) hx hb hr (fun t ht hW9 => ⟨⟨nI (0), g5_z, rfl, ⟨hf, Or.inl (⟨rfl, r2_z, g1_z, hp9, (by rw [eg5_z, if_neg c3_z])⟩)⟩, (show Wd D Z N0 g5_z ad t.heap by rw [ht]; exact hW)⟩, hS.F ht⟩) hS.2.2 dL_isLost_23

set_option maxHeartbeats 4000000 in
set_option maxRecDepth 100000 in
theorem c_L_nextOpen (l : Launch) (hfl : l.stackTraces = false) (D : va_G) (Z : Nat → Nat) (N0 : Nat) (g : T3) (ad : T2) (x : Int32) : Met l yL_nextOpen wsL_nextOpen ({ frames := 7, cells := 1, slots := 6, locals := 340 } : Room) (PC D Z N0 g ad [.ref (ad 0 0), .int (x), .ref (ad 40 0)]) (QI D Z N0 ad (fun (r : Int32) (g1 : T3) => Fr g g1 ∧ ((r = nI 0 ∧ ∃ r9 g2, (∃ j, j < g 3 1 2 ∧ x ≤ nI j ∧ isO g j ∧ (∀ q, q < j → x ≤ nI q → ¬ isO g q) ∧ r9 = nI j ∧ g = g2) ∧ ∃ n9, r9.toInt64 = lN n9 ∧ g1 = up g2 40 0 0 n9) ∨ (r = nI 1 ∧ g = g1 ∧ (∀ q, q < g 3 1 2 → x ≤ nI q → ¬ isO g q))))) 1 6 (AA N0) := by
  refine va_MetW (cc := cL_nextOpen) (maxL := 4) (ret := (some .int)) (by decide) rfl ?_
  intro pP eP sP mP args below meth cP s₁ B hmlP hvP
  obtain ⟨rfl, hW, hC⟩ := hvP
  have hx := B.exec
  have hb := B.bytes
  have hr := B.returns
  have hts := atoms_spec (ws := wsL_nextOpen) B.pre
  have hown : sP.vm.findClass RL = some mP.cls := findClass_of_methodNamed B.named
  have hlocks := B.notSynchronized
  have w_Cond_classLink_RL_31__java_util_NoSuchElementException_ : Cond.classLink RL 31 "java/util/NoSuchElementException" ∈ wsL_nextOpen := by decide +kernel
  have M : Mx pP mP cP cL_nextOpen 4 sP ([.ref (ad 0 0), .int (x), .ref (ad 40 0)] : List Value).toArray wsL_nextOpen RL D Z N0 := ⟨⟨hx, hb, hmlP, hown, hts⟩, hC⟩
  have hf : Fr g g := Fr.rf g
  have hS : va_S (AA N0) sP.heap sP.heap [] := va_S.rf
  have hl := lv_entry ([.ref (ad 0 0), .int (x), .ref (ad 40 0)]) (n := 4) (Nat.le_of_ble_eq_true rfl)
  rw [lg_entry_eq]
  generalize (lg_sl ([.ref (ad 0 0), .int (x), .ref (ad 40 0)]) ++ List.replicate (4 - (lg_sl ([.ref (ad 0 0), .int (x), .ref (ad 40 0)])).length) Slot.unset).toArray = ls at hl ⊢
  have hl : lv_has ls 4 [(0, .ref (ad 0 0)), (1, .int (x)), (2, .ref (ad 40 0))] := hl
  have htab : cP.exceptionTable.toList = [(⟨0, 9, 12, 31⟩ : ExceptionTableEntry)] := vx_table (x := yL_nextOpen) B (hts _ (show _ ∈ wsL_nextOpen from List.mem_cons_self))
  have hsc8 := hW.2.2.1.le 3 1 2 7 rfl
  refine lv_aload_n hx hb dL_nextOpen_0 rfl (lv_at hl 2 rfl) ?_
  refine lv_iconst (v := nI 0) hx hb dL_nextOpen_1 (by decide) ?_
  refine lv_aload_n hx hb dL_nextOpen_2 rfl (lv_at hl 0 rfl) ?_
  refine lv_iload_n hx hb dL_nextOpen_3 rfl (lv_at hl 1 rfl) ?_
  refine k_xi (k_xV (As := [.int (x)]) (rest := [.int (nI (0)), .ref (ad 40 0)]) M hW hS (c_X4_nextOpen l hfl D Z N0 g ad x) (cwV 1 hts gL_nextOpen_X4_nextOpen rfl rfl rfl (by decide +kernel) ⟨Nat.le_of_ble_eq_true rfl, Nat.le_of_ble_eq_true rfl⟩) (r_recv M.2 hW 0 0 (lv0 _) rfl rfl) rfl hl.1 rfl (Nat.le_of_ble_eq_true rfl) dL_nextOpen_4 ⟨Nat.le_of_ble_eq_true rfl, Nat.le_of_ble_eq_true rfl⟩) hS (fun E ce q9 H locs hp hW hS hq9 => ?_) (fun r2_z g1_z H locs hp hW hS => ?_)
  · obtain ⟨rfl, hx9⟩ := hp
    refine vx_catch (own := RL) (name := "java/util/NoSuchElementException") hown [] (⟨0, 9, 12, 31⟩ : ExceptionTableEntry) [] htab (fun z h => absurd h (List.not_mem_nil)) (by decide) (by decide) (hts _ w_Cond_classLink_RL_31__java_util_NoSuchElementException_) (va_Nw.use rfl (hC.2.2.2.2.1 ("java/util/NoSuchElementException", "java/util/NoSuchElementException") (by decide))) hq9.1 hq9.2.1 hq9.2.2 ?_
    refine lv_astore_n (lv' := [(3, .ref q9), (0, .ref (ad 0 0)), (1, .int (x)), (2, .ref (ad 40 0))]) hx hb dL_nextOpen_12 rfl hl (by decide) rfl (fun ls hl => ?_)
    refine lv_iconst (v := nI 1) hx hb dL_nextOpen_13 (by decide) ?_
    refine W.widen (k := 1) (n := 6) (Nat.le_of_ble_eq_true rfl) (Nat.le_of_ble_eq_true rfl) ?_
    -- path 1
    exact W.iret (v := nI (1)) hx hb hr (fun t ht hW9 => ⟨⟨nI (1), g, rfl, ⟨hf, Or.inr (⟨rfl, rfl, hx9⟩)⟩, (show Wd D Z N0 g ad t.heap by rw [ht]; exact hW)⟩, hS.F ht⟩) hS.2.2 dL_nextOpen_14
  · obtain ⟨hf1, hp⟩ := hp
    have hf : Fr g g1_z := hf.trans hf1
    have hp9 := hp
    obtain ⟨n9, hn9⟩ := lN_all (r2_z).toInt64
    refine lv_i2l hx hb dL_nextOpen_7 hn9 ?_
    refine r_lst M hW hS dL_nextOpen_8 (fun H locs hW hS => ?_)
    obtain ⟨g3_z, eg3_z⟩ : ∃ z, z = up g1_z 40 0 0 n9 := ⟨_, rfl⟩
    rw [← eg3_z] at hW
    have hf : Fr g g3_z := by rw [eg3_z]; exact hf.up rfl
    refine lv_goto (tgt := 15) hx hb dL_nextOpen_9 (by decide) ?_
    refine lv_iconst (v := nI 0) hx hb dL_nextOpen_15 (by decide) ?_
    refine W.widen (k := 1) (n := 6) (Nat.le_of_ble_eq_true rfl) (Nat.le_of_ble_eq_true rfl) ?_
    -- path 2
    exact W.iret (v := nI (0)) hx hb hr (fun t ht hW9 => ⟨⟨nI (0), g3_z, rfl, ⟨hf, Or.inl (⟨rfl, r2_z, g1_z, hp9, ⟨n9, hn9, eg3_z⟩⟩)⟩, (show Wd D Z N0 g3_z ad t.heap by rw [ht]; exact hW)⟩, hS.F ht⟩) hS.2.2 dL_nextOpen_16

set_option maxHeartbeats 4000000 in
set_option maxRecDepth 100000 in
theorem c_L_setAgreed (l : Launch) (hfl : l.stackTraces = false) (D : va_G) (Z : Nat → Nat) (N0 : Nat) (g : T3) (ad : T2) (x : Int32) (b : Nat) (hb1 : b ≤ 1) : Met l yL_setAgreed wsL_setAgreed ({ frames := 7, cells := 1, slots := 6, locals := 340 } : Room) (PC D Z N0 g ad [.ref (ad 0 0), .int (x), .int (nI (b)), .ref (ad 40 0)]) (QI D Z N0 ad (fun (r : Int32) (g1 : T3) => Fr g g1 ∧ ((r = nI 0 ∧ ∃ r9 g2, (∃ i, i < 5 ∧ x = nI i ∧ r9 = nI (cAg (up g 2 0 i b)) ∧ g2 = up g 2 0 i b) ∧ ∃ n9, r9.toInt64 = lN n9 ∧ g1 = up g2 40 0 0 n9) ∨ (r = nI 1 ∧ g = g1 ∧ (¬ Ix 5 x))))) 1 6 (AA N0) := by
  refine va_MetW (cc := cL_setAgreed) (maxL := 5) (ret := (some .int)) (by decide) rfl ?_
  intro pP eP sP mP args below meth cP s₁ B hmlP hvP
  obtain ⟨rfl, hW, hC⟩ := hvP
  have hx := B.exec
  have hb := B.bytes
  have hr := B.returns
  have hts := atoms_spec (ws := wsL_setAgreed) B.pre
  have hown : sP.vm.findClass RL = some mP.cls := findClass_of_methodNamed B.named
  have hlocks := B.notSynchronized
  have w_Cond_classLink_RL_25__java_lang_IndexOutOfBoundsException_ : Cond.classLink RL 25 "java/lang/IndexOutOfBoundsException" ∈ wsL_setAgreed := by decide +kernel
  have M : Mx pP mP cP cL_setAgreed 5 sP ([.ref (ad 0 0), .int (x), .int (nI (b)), .ref (ad 40 0)] : List Value).toArray wsL_setAgreed RL D Z N0 := ⟨⟨hx, hb, hmlP, hown, hts⟩, hC⟩
  have hf : Fr g g := Fr.rf g
  have hS : va_S (AA N0) sP.heap sP.heap [] := va_S.rf
  have hl := lv_entry ([.ref (ad 0 0), .int (x), .int (nI (b)), .ref (ad 40 0)]) (n := 5) (Nat.le_of_ble_eq_true rfl)
  rw [lg_entry_eq]
  generalize (lg_sl ([.ref (ad 0 0), .int (x), .int (nI (b)), .ref (ad 40 0)]) ++ List.replicate (5 - (lg_sl ([.ref (ad 0 0), .int (x), .int (nI (b)), .ref (ad 40 0)])).length) Slot.unset).toArray = ls at hl ⊢
  have hl : lv_has ls 5 [(0, .ref (ad 0 0)), (1, .int (x)), (2, .int (nI (b))), (3, .ref (ad 40 0))] := hl
  have htab : cP.exceptionTable.toList = [(⟨0, 10, 13, 25⟩ : ExceptionTableEntry)] := vx_table (x := yL_setAgreed) B (hts _ (show _ ∈ wsL_setAgreed from List.mem_cons_self))
  have hsc8 := hW.2.2.1.le 3 1 2 7 rfl
  refine lv_aload_n hx hb dL_setAgreed_0 rfl (lv_at hl 3 rfl) ?_
  refine lv_iconst (v := nI 0) hx hb dL_setAgreed_1 (by decide) ?_
  refine lv_aload_n hx hb dL_setAgreed_2 rfl (lv_at hl 0 rfl) ?_
  refine lv_iload_n hx hb dL_setAgreed_3 rfl (lv_at hl 1 rfl) ?_
  refine lv_iload_n hx hb dL_setAgreed_4 rfl (lv_at hl 2 rfl) ?_
  refine k_xi (k_xV (As := [.int (x), .int (nI (b))]) (rest := [.int (nI (0)), .ref (ad 40 0)]) M hW hS (c_X4_setAgreed l hfl D Z N0 g ad x b hb1) (cwV 2 hts gL_setAgreed_X4_setAgreed rfl rfl rfl (by decide +kernel) ⟨Nat.le_of_ble_eq_true rfl, Nat.le_of_ble_eq_true rfl⟩) (r_recv M.2 hW 0 0 (lv0 _) rfl rfl) rfl hl.1 rfl (Nat.le_of_ble_eq_true rfl) dL_setAgreed_5 ⟨Nat.le_of_ble_eq_true rfl, Nat.le_of_ble_eq_true rfl⟩) hS (fun E ce q9 H locs hp hW hS hq9 => ?_) (fun r2_z g1_z H locs hp hW hS => ?_)
  · obtain ⟨rfl, hx9⟩ := hp
    refine vx_catch (own := RL) (name := "java/lang/IndexOutOfBoundsException") hown [] (⟨0, 10, 13, 25⟩ : ExceptionTableEntry) [] htab (fun z h => absurd h (List.not_mem_nil)) (by decide) (by decide) (hts _ w_Cond_classLink_RL_25__java_lang_IndexOutOfBoundsException_) (va_Nw.use rfl (hC.2.2.2.2.1 ("java/lang/IndexOutOfBoundsException", "java/lang/IndexOutOfBoundsException") (by decide))) hq9.1 hq9.2.1 hq9.2.2 ?_
    refine lv_astore (lv' := [(4, .ref q9), (0, .ref (ad 0 0)), (1, .int (x)), (2, .int (nI (b))), (3, .ref (ad 40 0))]) hx hb dL_setAgreed_13 hl (by decide) rfl (fun ls hl => ?_)
    refine lv_iconst (v := nI 1) hx hb dL_setAgreed_15 (by decide) ?_
    refine W.widen (k := 1) (n := 6) (Nat.le_of_ble_eq_true rfl) (Nat.le_of_ble_eq_true rfl) ?_
    -- path 1
    exact W.iret (v := nI (1)) hx hb hr (fun t ht hW9 => ⟨⟨nI (1), g, rfl, ⟨hf, Or.inr (⟨rfl, rfl, hx9⟩)⟩, (show Wd D Z N0 g ad t.heap by rw [ht]; exact hW)⟩, hS.F ht⟩) hS.2.2 dL_setAgreed_16
  · obtain ⟨hf1, hp⟩ := hp
    have hf : Fr g g1_z := hf.trans hf1
    have hp9 := hp
    obtain ⟨n9, hn9⟩ := lN_all (r2_z).toInt64
    refine lv_i2l hx hb dL_setAgreed_8 hn9 ?_
    refine r_lst M hW hS dL_setAgreed_9 (fun H locs hW hS => ?_)
    obtain ⟨g3_z, eg3_z⟩ : ∃ z, z = up g1_z 40 0 0 n9 := ⟨_, rfl⟩
    rw [← eg3_z] at hW
    have hf : Fr g g3_z := by rw [eg3_z]; exact hf.up rfl
    refine lv_goto (tgt := 17) hx hb dL_setAgreed_10 (by decide) ?_
    refine lv_iconst (v := nI 0) hx hb dL_setAgreed_17 (by decide) ?_
    refine W.widen (k := 1) (n := 6) (Nat.le_of_ble_eq_true rfl) (Nat.le_of_ble_eq_true rfl) ?_
    -- path 2
    exact W.iret (v := nI (0)) hx hb hr (fun t ht hW9 => ⟨⟨nI (0), g3_z, rfl, ⟨hf, Or.inl (⟨rfl, r2_z, g1_z, hp9, ⟨n9, hn9, eg3_z⟩⟩)⟩, (show Wd D Z N0 g3_z ad t.heap by rw [ht]; exact hW)⟩, hS.F ht⟩) hS.2.2 dL_setAgreed_18

set_option maxHeartbeats 4000000 in
set_option maxRecDepth 100000 in
theorem c_L_recover (l : Launch) (hfl : l.stackTraces = false) (D : va_G) (Z : Nat → Nat) (N0 : Nat) (g : T3) (ad : T2) (x : Int32) : Met l yL_recover wsL_recover ({ frames := 8, cells := 2, slots := 12, locals := 380 } : Room) (PC D Z N0 g ad [.ref (ad 0 0), .int (x), .ref (ad 40 0)]) (QI D Z N0 ad (fun (r : Int32) (g1 : T3) => Fr g g1 ∧ ((r = nI 0 ∧ ∃ r9 g2, (∃ j, j < g 3 1 2 ∧ x = nI j ∧ g 0 0 6 = 114 ∧ ¬ isO g j ∧ g 13 j 1 ≤ cAg g ∧ r9 = nI (cAg g) ∧ g2 = fAg (bnT g j 0) 5) ∧ ∃ n9, r9.toInt64 = lN n9 ∧ g1 = up g2 40 0 0 n9) ∨ (r = nI 1 ∧ g = g1 ∧ (¬ Ix (g 3 1 2) x)) ∨ (r = nI 2 ∧ g = g1 ∧ (∃ j, j < g 3 1 2 ∧ x = nI j ∧ ¬ (g 0 0 6 = 114 ∧ ¬ isO g j))) ∨ (r = nI 3 ∧ g = g1 ∧ (∃ j, j < g 3 1 2 ∧ x = nI j ∧ g 0 0 6 = 114 ∧ ¬ isO g j ∧ cAg g < g 13 j 1))))) 2 12 (AA N0) := by
  refine va_MetW (cc := cL_recover) (maxL := 4) (ret := (some .int)) (by decide) rfl ?_
  intro pP eP sP mP args below meth cP s₁ B hmlP hvP
  obtain ⟨rfl, hW, hC⟩ := hvP
  have hx := B.exec
  have hb := B.bytes
  have hr := B.returns
  have hts := atoms_spec (ws := wsL_recover) B.pre
  have hown : sP.vm.findClass RL = some mP.cls := findClass_of_methodNamed B.named
  have hlocks := B.notSynchronized
  have w_Cond_classLink_RL_25__java_lang_IndexOutOfBoundsException_ : Cond.classLink RL 25 "java/lang/IndexOutOfBoundsException" ∈ wsL_recover := by decide +kernel
  have w_Cond_classLink_RL_19__java_lang_IllegalStateException_ : Cond.classLink RL 19 "java/lang/IllegalStateException" ∈ wsL_recover := by decide +kernel
  have w_Cond_classLink_RL_96__java_lang_UnsupportedOperationException_ : Cond.classLink RL 96 "java/lang/UnsupportedOperationException" ∈ wsL_recover := by decide +kernel
  have M : Mx pP mP cP cL_recover 4 sP ([.ref (ad 0 0), .int (x), .ref (ad 40 0)] : List Value).toArray wsL_recover RL D Z N0 := ⟨⟨hx, hb, hmlP, hown, hts⟩, hC⟩
  have hf : Fr g g := Fr.rf g
  have hS : va_S (AA N0) sP.heap sP.heap [] := va_S.rf
  have hl := lv_entry ([.ref (ad 0 0), .int (x), .ref (ad 40 0)]) (n := 4) (Nat.le_of_ble_eq_true rfl)
  rw [lg_entry_eq]
  generalize (lg_sl ([.ref (ad 0 0), .int (x), .ref (ad 40 0)]) ++ List.replicate (4 - (lg_sl ([.ref (ad 0 0), .int (x), .ref (ad 40 0)])).length) Slot.unset).toArray = ls at hl ⊢
  have hl : lv_has ls 4 [(0, .ref (ad 0 0)), (1, .int (x)), (2, .ref (ad 40 0))] := hl
  have htab : cP.exceptionTable.toList = [(⟨0, 9, 12, 25⟩ : ExceptionTableEntry), (⟨0, 9, 15, 19⟩ : ExceptionTableEntry), (⟨0, 9, 18, 96⟩ : ExceptionTableEntry)] := vx_table (x := yL_recover) B (hts _ (show _ ∈ wsL_recover from List.mem_cons_self))
  have hsc8 := hW.2.2.1.le 3 1 2 7 rfl
  refine lv_aload_n hx hb dL_recover_0 rfl (lv_at hl 2 rfl) ?_
  refine lv_iconst (v := nI 0) hx hb dL_recover_1 (by decide) ?_
  refine lv_aload_n hx hb dL_recover_2 rfl (lv_at hl 0 rfl) ?_
  refine lv_iload_n hx hb dL_recover_3 rfl (lv_at hl 1 rfl) ?_
  refine k_xi (k_xV (As := [.int (x)]) (rest := [.int (nI (0)), .ref (ad 40 0)]) M hW hS (c_X4_recover l hfl D Z N0 g ad x) (cwV 1 hts gL_recover_X4_recover rfl rfl rfl (by decide +kernel) ⟨Nat.le_of_ble_eq_true rfl, Nat.le_of_ble_eq_true rfl⟩) (r_recv M.2 hW 0 0 (lv0 _) rfl rfl) rfl hl.1 rfl (Nat.le_of_ble_eq_true rfl) dL_recover_4 ⟨Nat.le_of_ble_eq_true rfl, Nat.le_of_ble_eq_true rfl⟩) hS (fun E ce q9 H locs hp hW hS hq9 => ?_) (fun r2_z g1_z H locs hp hW hS => ?_)
  · rcases hp with ⟨rfl, hx9⟩ | ⟨rfl, hx9⟩ | ⟨rfl, hx9⟩
    · refine vx_catch (own := RL) (name := "java/lang/IndexOutOfBoundsException") hown [] (⟨0, 9, 12, 25⟩ : ExceptionTableEntry) [(⟨0, 9, 15, 19⟩ : ExceptionTableEntry), (⟨0, 9, 18, 96⟩ : ExceptionTableEntry)] htab (fun z h => absurd h (List.not_mem_nil)) (by decide) (by decide) (hts _ w_Cond_classLink_RL_25__java_lang_IndexOutOfBoundsException_) (va_Nw.use rfl (hC.2.2.2.2.1 ("java/lang/IndexOutOfBoundsException", "java/lang/IndexOutOfBoundsException") (by decide))) hq9.1 hq9.2.1 hq9.2.2 ?_
      refine lv_astore_n (lv' := [(3, .ref q9), (0, .ref (ad 0 0)), (1, .int (x)), (2, .ref (ad 40 0))]) hx hb dL_recover_12 rfl hl (by decide) rfl (fun ls hl => ?_)
      refine lv_iconst (v := nI 1) hx hb dL_recover_13 (by decide) ?_
      refine W.widen (k := 2) (n := 12) (Nat.le_of_ble_eq_true rfl) (Nat.le_of_ble_eq_true rfl) ?_
      -- path 1
      exact W.iret (v := nI (1)) hx hb hr (fun t ht hW9 => ⟨⟨nI (1), g, rfl, ⟨hf, Or.inr (Or.inl (⟨rfl, rfl, hx9⟩))⟩, (show Wd D Z N0 g ad t.heap by rw [ht]; exact hW)⟩, hS.F ht⟩) hS.2.2 dL_recover_14
    · refine vx_catch (own := RL) (name := "java/lang/IllegalStateException") hown [(⟨0, 9, 12, 25⟩ : ExceptionTableEntry)] (⟨0, 9, 15, 19⟩ : ExceptionTableEntry) [(⟨0, 9, 18, 96⟩ : ExceptionTableEntry)] htab (fun z h => (List.mem_cons.mp h).elim (fun h9 => h9 ▸ Or.inr ⟨by decide, "java/lang/IndexOutOfBoundsException", hts _ w_Cond_classLink_RL_25__java_lang_IndexOutOfBoundsException_, hC.2.2.2.2.2.2.1 ("java/lang/IllegalStateException", "java/lang/IndexOutOfBoundsException") (by decide)⟩) (fun h => absurd h (List.not_mem_nil))) (by decide) (by decide) (hts _ w_Cond_classLink_RL_19__java_lang_IllegalStateException_) (va_Nw.use rfl (hC.2.2.2.2.1 ("java/lang/IllegalStateException", "java/lang/IllegalStateException") (by decide))) hq9.1 hq9.2.1 hq9.2.2 ?_
      refine lv_astore_n (lv' := [(3, .ref q9), (0, .ref (ad 0 0)), (1, .int (x)), (2, .ref (ad 40 0))]) hx hb dL_recover_15 rfl hl (by decide) rfl (fun ls hl => ?_)
      refine lv_iconst (v := nI 2) hx hb dL_recover_16 (by decide) ?_
      refine W.widen (k := 2) (n := 12) (Nat.le_of_ble_eq_true rfl) (Nat.le_of_ble_eq_true rfl) ?_
      -- path 2
      exact W.iret (v := nI (2)) hx hb hr (fun t ht hW9 => ⟨⟨nI (2), g, rfl, ⟨hf, Or.inr (Or.inr (Or.inl (⟨rfl, rfl, hx9⟩)))⟩, (show Wd D Z N0 g ad t.heap by rw [ht]; exact hW)⟩, hS.F ht⟩) hS.2.2 dL_recover_17
    · refine vx_catch (own := RL) (name := "java/lang/UnsupportedOperationException") hown [(⟨0, 9, 12, 25⟩ : ExceptionTableEntry), (⟨0, 9, 15, 19⟩ : ExceptionTableEntry)] (⟨0, 9, 18, 96⟩ : ExceptionTableEntry) [] htab (fun z h => (List.mem_cons.mp h).elim (fun h9 => h9 ▸ Or.inr ⟨by decide, "java/lang/IndexOutOfBoundsException", hts _ w_Cond_classLink_RL_25__java_lang_IndexOutOfBoundsException_, hC.2.2.2.2.2.2.1 ("java/lang/UnsupportedOperationException", "java/lang/IndexOutOfBoundsException") (by decide)⟩) (fun h => (List.mem_cons.mp h).elim (fun h9 => h9 ▸ Or.inr ⟨by decide, "java/lang/IllegalStateException", hts _ w_Cond_classLink_RL_19__java_lang_IllegalStateException_, hC.2.2.2.2.2.2.1 ("java/lang/UnsupportedOperationException", "java/lang/IllegalStateException") (by decide)⟩) (fun h => absurd h (List.not_mem_nil)))) (by decide) (by decide) (hts _ w_Cond_classLink_RL_96__java_lang_UnsupportedOperationException_) (va_Nw.use rfl (hC.2.2.2.2.1 ("java/lang/UnsupportedOperationException", "java/lang/UnsupportedOperationException") (by decide))) hq9.1 hq9.2.1 hq9.2.2 ?_
      refine lv_astore_n (lv' := [(3, .ref q9), (0, .ref (ad 0 0)), (1, .int (x)), (2, .ref (ad 40 0))]) hx hb dL_recover_18 rfl hl (by decide) rfl (fun ls hl => ?_)
      refine lv_iconst (v := nI 3) hx hb dL_recover_19 (by decide) ?_
      refine W.widen (k := 2) (n := 12) (Nat.le_of_ble_eq_true rfl) (Nat.le_of_ble_eq_true rfl) ?_
      -- path 3
      exact W.iret (v := nI (3)) hx hb hr (fun t ht hW9 => ⟨⟨nI (3), g, rfl, ⟨hf, Or.inr (Or.inr (Or.inr (⟨rfl, rfl, hx9⟩)))⟩, (show Wd D Z N0 g ad t.heap by rw [ht]; exact hW)⟩, hS.F ht⟩) hS.2.2 dL_recover_20
  · obtain ⟨hf1, hp⟩ := hp
    have hf : Fr g g1_z := hf.trans hf1
    have hp9 := hp
    obtain ⟨n9, hn9⟩ := lN_all (r2_z).toInt64
    refine lv_i2l hx hb dL_recover_7 hn9 ?_
    refine r_lst M hW hS dL_recover_8 (fun H locs hW hS => ?_)
    obtain ⟨g3_z, eg3_z⟩ : ∃ z, z = up g1_z 40 0 0 n9 := ⟨_, rfl⟩
    rw [← eg3_z] at hW
    have hf : Fr g g3_z := by rw [eg3_z]; exact hf.up rfl
    refine lv_goto (tgt := 21) hx hb dL_recover_9 (by decide) ?_
    refine lv_iconst (v := nI 0) hx hb dL_recover_21 (by decide) ?_
    refine W.widen (k := 2) (n := 12) (Nat.le_of_ble_eq_true rfl) (Nat.le_of_ble_eq_true rfl) ?_
    -- path 4
    exact W.iret (v := nI (0)) hx hb hr (fun t ht hW9 => ⟨⟨nI (0), g3_z, rfl, ⟨hf, Or.inl (⟨rfl, r2_z, g1_z, hp9, ⟨n9, hn9, eg3_z⟩⟩)⟩, (show Wd D Z N0 g3_z ad t.heap by rw [ht]; exact hW)⟩, hS.F ht⟩) hS.2.2 dL_recover_22

set_option maxHeartbeats 4000000 in
set_option maxRecDepth 100000 in
theorem c_L_openShare (l : Launch) (hfl : l.stackTraces = false) (D : va_G) (Z : Nat → Nat) (N0 : Nat) (g : T3) (ad : T2) : Met l yL_openShare wsL_openShare ({ frames := 7, cells := 1, slots := 6, locals := 340 } : Room) (PC D Z N0 g ad [.ref (ad 0 0), .ref (ad 41 0)]) (QI D Z N0 ad (fun (r : Int32) (g1 : T3) => Fr g g1 ∧ ((r = nI 0 ∧ ∃ r9 g2, (¬ g 3 1 2 = 0 ∧ r9 = FP.fdiv (FP.i2f (nI (cOp g (g 3 1 2)))) (FP.i2f (nI (g 3 1 2))) ∧ g = g2) ∧ g1 = up g2 41 0 0 (FP.f2d r9).toNat) ∨ (r = nI 1 ∧ g = g1 ∧ (g 3 1 2 = 0))))) 1 6 (AA N0) := by
  refine va_MetW (cc := cL_openShare) (maxL := 3) (ret := (some .int)) (by decide) rfl ?_
  intro pP eP sP mP args below meth cP s₁ B hmlP hvP
  obtain ⟨rfl, hW, hC⟩ := hvP
  have hx := B.exec
  have hb := B.bytes
  have hr := B.returns
  have hts := atoms_spec (ws := wsL_openShare) B.pre
  have hown : sP.vm.findClass RL = some mP.cls := findClass_of_methodNamed B.named
  have hlocks := B.notSynchronized
  have w_Cond_classLink_RL_102__java_lang_ArithmeticException_ : Cond.classLink RL 102 "java/lang/ArithmeticException" ∈ wsL_openShare := by decide +kernel
  have M : Mx pP mP cP cL_openShare 3 sP ([.ref (ad 0 0), .ref (ad 41 0)] : List Value).toArray wsL_openShare RL D Z N0 := ⟨⟨hx, hb, hmlP, hown, hts⟩, hC⟩
  have hf : Fr g g := Fr.rf g
  have hS : va_S (AA N0) sP.heap sP.heap [] := va_S.rf
  have hl := lv_entry ([.ref (ad 0 0), .ref (ad 41 0)]) (n := 3) (Nat.le_of_ble_eq_true rfl)
  rw [lg_entry_eq]
  generalize (lg_sl ([.ref (ad 0 0), .ref (ad 41 0)]) ++ List.replicate (3 - (lg_sl ([.ref (ad 0 0), .ref (ad 41 0)])).length) Slot.unset).toArray = ls at hl ⊢
  have hl : lv_has ls 3 [(0, .ref (ad 0 0)), (1, .ref (ad 41 0))] := hl
  have htab : cP.exceptionTable.toList = [(⟨0, 8, 11, 102⟩ : ExceptionTableEntry)] := vx_table (x := yL_openShare) B (hts _ (show _ ∈ wsL_openShare from List.mem_cons_self))
  have hsc8 := hW.2.2.1.le 3 1 2 7 rfl
  refine lv_aload_n hx hb dL_openShare_0 rfl (lv_at hl 1 rfl) ?_
  refine lv_iconst (v := nI 0) hx hb dL_openShare_1 (by decide) ?_
  refine lv_aload_n hx hb dL_openShare_2 rfl (lv_at hl 0 rfl) ?_
  refine k_xf (k_xV (As := []) (rest := [.int (nI (0)), .ref (ad 41 0)]) M hW hS (c_X4_openShare l hfl D Z N0 g ad) (cwV 0 hts gL_openShare_X4_openShare rfl rfl rfl (by decide +kernel) ⟨Nat.le_of_ble_eq_true rfl, Nat.le_of_ble_eq_true rfl⟩) (r_recv M.2 hW 0 0 (lv0 _) rfl rfl) rfl hl.1 rfl (Nat.le_of_ble_eq_true rfl) dL_openShare_3 ⟨Nat.le_of_ble_eq_true rfl, Nat.le_of_ble_eq_true rfl⟩) hS (fun E ce q9 H locs hp hW hS hq9 => ?_) (fun r2_z g1_z H locs hp hW hS => ?_)
  · obtain ⟨rfl, hx9⟩ := hp
    refine vx_catch (own := RL) (name := "java/lang/ArithmeticException") hown [] (⟨0, 8, 11, 102⟩ : ExceptionTableEntry) [] htab (fun z h => absurd h (List.not_mem_nil)) (by decide) (by decide) (hts _ w_Cond_classLink_RL_102__java_lang_ArithmeticException_) (va_Nw.use rfl (hC.2.2.2.2.1 ("java/lang/ArithmeticException", "java/lang/ArithmeticException") (by decide))) hq9.1 hq9.2.1 hq9.2.2 ?_
    refine lv_astore_n (lv' := [(2, .ref q9), (0, .ref (ad 0 0)), (1, .ref (ad 41 0))]) hx hb dL_openShare_11 rfl hl (by decide) rfl (fun ls hl => ?_)
    refine lv_iconst (v := nI 1) hx hb dL_openShare_12 (by decide) ?_
    refine W.widen (k := 1) (n := 6) (Nat.le_of_ble_eq_true rfl) (Nat.le_of_ble_eq_true rfl) ?_
    -- path 1
    exact W.iret (v := nI (1)) hx hb hr (fun t ht hW9 => ⟨⟨nI (1), g, rfl, ⟨hf, Or.inr (⟨rfl, rfl, hx9⟩)⟩, (show Wd D Z N0 g ad t.heap by rw [ht]; exact hW)⟩, hS.F ht⟩) hS.2.2 dL_openShare_13
  · obtain ⟨hf1, hp⟩ := hp
    have hf : Fr g g1_z := hf.trans hf1
    have hp9 := hp
    refine lv_f2d hx hb dL_openShare_6 (by obtain ⟨h1, h2, -⟩ := hp9; rw [h2]; have h9 := hW.2.2.1.le 3 1 2 7 rfl; exact ne_fd _ (Nat.lt_succ_of_le (Nat.le_trans (cOp_le _ _) (hsc8))) _ (Nat.lt_succ_of_le hsc8) h1) ?_
    refine r_dst M hW hS dL_openShare_7 (fun H locs hW hS => ?_)
    obtain ⟨g3_z, eg3_z⟩ : ∃ z, z = up g1_z 41 0 0 (FP.f2d (r2_z)).toNat := ⟨_, rfl⟩
    rw [← eg3_z] at hW
    have hf : Fr g g3_z := by rw [eg3_z]; exact hf.up rfl
    refine lv_goto (tgt := 14) hx hb dL_openShare_8 (by decide) ?_
    refine lv_iconst (v := nI 0) hx hb dL_openShare_14 (by decide) ?_
    refine W.widen (k := 1) (n := 6) (Nat.le_of_ble_eq_true rfl) (Nat.le_of_ble_eq_true rfl) ?_
    -- path 2
    exact W.iret (v := nI (0)) hx hb hr (fun t ht hW9 => ⟨⟨nI (0), g3_z, rfl, ⟨hf, Or.inl (⟨rfl, r2_z, g1_z, hp9, eg3_z⟩)⟩, (show Wd D Z N0 g3_z ad t.heap by rw [ht]; exact hW)⟩, hS.F ht⟩) hS.2.2 dL_openShare_15

set_option maxHeartbeats 4000000 in
set_option maxRecDepth 100000 in
theorem c_L_meanVersion (l : Launch) (hfl : l.stackTraces = false) (D : va_G) (Z : Nat → Nat) (N0 : Nat) (g : T3) (ad : T2) : Met l yL_meanVersion wsL_meanVersion ({ frames := 7, cells := 1, slots := 6, locals := 340 } : Room) (PC D Z N0 g ad [.ref (ad 0 0), .ref (ad 41 0)]) (QI D Z N0 ad (fun (r : Int32) (g1 : T3) => Fr g g1 ∧ ((r = nI 0 ∧ ∃ r9 g2, (¬ cRun g = 0 ∧ r9 = FP.ddiv (FP.i2d (nI (sVer g (cRun g)))) (FP.i2d (nI (cRun g))) ∧ g = g2) ∧ g1 = up g2 41 0 0 r9.toNat) ∨ (r = nI 1 ∧ g = g1 ∧ (cRun g = 0))))) 1 6 (AA N0) := by
  refine va_MetW (cc := cL_meanVersion) (maxL := 3) (ret := (some .int)) (by decide) rfl ?_
  intro pP eP sP mP args below meth cP s₁ B hmlP hvP
  obtain ⟨rfl, hW, hC⟩ := hvP
  have hx := B.exec
  have hb := B.bytes
  have hr := B.returns
  have hts := atoms_spec (ws := wsL_meanVersion) B.pre
  have hown : sP.vm.findClass RL = some mP.cls := findClass_of_methodNamed B.named
  have hlocks := B.notSynchronized
  have w_Cond_classLink_RL_102__java_lang_ArithmeticException_ : Cond.classLink RL 102 "java/lang/ArithmeticException" ∈ wsL_meanVersion := by decide +kernel
  have M : Mx pP mP cP cL_meanVersion 3 sP ([.ref (ad 0 0), .ref (ad 41 0)] : List Value).toArray wsL_meanVersion RL D Z N0 := ⟨⟨hx, hb, hmlP, hown, hts⟩, hC⟩
  have hf : Fr g g := Fr.rf g
  have hS : va_S (AA N0) sP.heap sP.heap [] := va_S.rf
  have hl := lv_entry ([.ref (ad 0 0), .ref (ad 41 0)]) (n := 3) (Nat.le_of_ble_eq_true rfl)
  rw [lg_entry_eq]
  generalize (lg_sl ([.ref (ad 0 0), .ref (ad 41 0)]) ++ List.replicate (3 - (lg_sl ([.ref (ad 0 0), .ref (ad 41 0)])).length) Slot.unset).toArray = ls at hl ⊢
  have hl : lv_has ls 3 [(0, .ref (ad 0 0)), (1, .ref (ad 41 0))] := hl
  have htab : cP.exceptionTable.toList = [(⟨0, 7, 10, 102⟩ : ExceptionTableEntry)] := vx_table (x := yL_meanVersion) B (hts _ (show _ ∈ wsL_meanVersion from List.mem_cons_self))
  have hsc8 := hW.2.2.1.le 3 1 2 7 rfl
  refine lv_aload_n hx hb dL_meanVersion_0 rfl (lv_at hl 1 rfl) ?_
  refine lv_iconst (v := nI 0) hx hb dL_meanVersion_1 (by decide) ?_
  refine lv_aload_n hx hb dL_meanVersion_2 rfl (lv_at hl 0 rfl) ?_
  refine k_xd (k_xV (As := []) (rest := [.int (nI (0)), .ref (ad 41 0)]) M hW hS (c_X4_meanVersion l hfl D Z N0 g ad) (cwV 0 hts gL_meanVersion_X4_meanVersion rfl rfl rfl (by decide +kernel) ⟨Nat.le_of_ble_eq_true rfl, Nat.le_of_ble_eq_true rfl⟩) (r_recv M.2 hW 0 0 (lv0 _) rfl rfl) rfl hl.1 rfl (Nat.le_of_ble_eq_true rfl) dL_meanVersion_3 ⟨Nat.le_of_ble_eq_true rfl, Nat.le_of_ble_eq_true rfl⟩) hS (fun E ce q9 H locs hp hW hS hq9 => ?_) (fun r2_z g1_z H locs hp hW hS => ?_)
  · obtain ⟨rfl, hx9⟩ := hp
    refine vx_catch (own := RL) (name := "java/lang/ArithmeticException") hown [] (⟨0, 7, 10, 102⟩ : ExceptionTableEntry) [] htab (fun z h => absurd h (List.not_mem_nil)) (by decide) (by decide) (hts _ w_Cond_classLink_RL_102__java_lang_ArithmeticException_) (va_Nw.use rfl (hC.2.2.2.2.1 ("java/lang/ArithmeticException", "java/lang/ArithmeticException") (by decide))) hq9.1 hq9.2.1 hq9.2.2 ?_
    refine lv_astore_n (lv' := [(2, .ref q9), (0, .ref (ad 0 0)), (1, .ref (ad 41 0))]) hx hb dL_meanVersion_10 rfl hl (by decide) rfl (fun ls hl => ?_)
    refine lv_iconst (v := nI 1) hx hb dL_meanVersion_11 (by decide) ?_
    refine W.widen (k := 1) (n := 6) (Nat.le_of_ble_eq_true rfl) (Nat.le_of_ble_eq_true rfl) ?_
    -- path 1
    exact W.iret (v := nI (1)) hx hb hr (fun t ht hW9 => ⟨⟨nI (1), g, rfl, ⟨hf, Or.inr (⟨rfl, rfl, hx9⟩)⟩, (show Wd D Z N0 g ad t.heap by rw [ht]; exact hW)⟩, hS.F ht⟩) hS.2.2 dL_meanVersion_12
  · obtain ⟨hf1, hp⟩ := hp
    have hf : Fr g g1_z := hf.trans hf1
    have hp9 := hp
    refine r_dst M hW hS dL_meanVersion_6 (fun H locs hW hS => ?_)
    obtain ⟨g3_z, eg3_z⟩ : ∃ z, z = up g1_z 41 0 0 (r2_z).toNat := ⟨_, rfl⟩
    rw [← eg3_z] at hW
    have hf : Fr g g3_z := by rw [eg3_z]; exact hf.up rfl
    refine lv_goto (tgt := 13) hx hb dL_meanVersion_7 (by decide) ?_
    refine lv_iconst (v := nI 0) hx hb dL_meanVersion_13 (by decide) ?_
    refine W.widen (k := 1) (n := 6) (Nat.le_of_ble_eq_true rfl) (Nat.le_of_ble_eq_true rfl) ?_
    -- path 2
    exact W.iret (v := nI (0)) hx hb hr (fun t ht hW9 => ⟨⟨nI (0), g3_z, rfl, ⟨hf, Or.inl (⟨rfl, r2_z, g1_z, hp9, eg3_z⟩)⟩, (show Wd D Z N0 g3_z ad t.heap by rw [ht]; exact hW)⟩, hS.F ht⟩) hS.2.2 dL_meanVersion_14
