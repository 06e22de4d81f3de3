/-! RAW CELLS: what is made and not yet part of the world. -/
theorem va_S_w {A B : Nat → Prop} {H0 H : Heap} {locs : List Loc} (h : va_S A H0 H locs) (hAB : ∀ q, A q → B q) : va_S B H0 H locs := ⟨h.1, fun q h1 h2 => h.2.1 q h1 (fun h9 => h2 (hAB q h9)), fun x hx => hAB _ (h.2.2 x hx)⟩
theorem va_D_w {A B : Nat → Prop} {ws : va_W} (h : va_D A ws) (hAB : ∀ q, A q → B q) : va_D B ws := ⟨h.1, fun k q hk => hAB _ (h.2 k q hk)⟩
theorem raw_N {N0 sz : Nat} {ws : va_W} (hD : va_D (AA N0) ws) (hz : N0 ≤ sz) {q : Nat} (h : va_A ws sz q) : AA N0 q := by
  rcases h with ⟨k, e, h⟩ | h
  · exact hD.2 k _ h
  · exact Nat.le_trans hz h
theorem EV.z {N0 : Nat} {Z : Nat → Nat} {U : State} (h : EV N0 Z U) : va_Z "java/util/ArrayList" "DEFAULTCAPACITY_EMPTY_ELEMENTDATA" "[Ljava/lang/Object;" (.ref (Z 6)) (AA N0) U U.heap := h.2.2.2.2.2.2.1
theorem EV.ao1 {N0 : Nat} {Z : Nat → Nat} {U : State} (h : EV N0 Z U) : va_AO "java/lang/Object" U := h.2.2.2.2.2.1.1
theorem EV.ao2 {N0 : Nat} {Z : Nat → Nat} {U : State} (h : EV N0 Z U) : va_AO "StartChain$Image" U := h.2.2.2.2.2.1.2
def PR (D : va_G) (Z : Nat → Nat) (N0 sz : Nat) (ws : va_W) (av : List Value) : Array Value → State → Prop := va_Pc av (fun U => U.heap.size = sz ∧ va_P D vwCl ws U.heap ∧ va_D (AA N0) ws ∧ Cx D Z N0 U)
theorem PR.blind {D : va_G} {Z : Nat → Nat} {N0 sz : Nat} {ws : va_W} {av : List Value} : FrameBlind (PR D Z N0 sz ws av) := fun a U g9 mk q => ⟨q.1, q.2.1, q.2.2.1, q.2.2.2.1, q.2.2.2.2.call g9 mk a⟩
abbrev QRw (D : va_G) (ws0 : va_W) (sz : Nat) (post : va_W → Prop) : Array Value → State → Outcome → State → Prop := va_Qv post (fun ws t => va_P D vwCl ws t.heap ∧ va_D (va_A ws0 sz) ws) (va_A ws0 sz)
abbrev tyL (Z : Nat → Nat) : List (Nat × FieldType) := [(Z 0, .int), (Z 1, .boolean), (Z 2, .object "java/lang/Object"), (Z 3, .object "StartChain$Image"), (Z 4, .long), (Z 5, .double)]
section RAW
variable {p : Program} {l : Launch} {e : Env} {R : Room} {s : State} {m : MethodId} {args : Array Value} {below : List Frame} {meth : Method} {c : Code} {H H0 : Heap} {locs : List Loc} {cells slots : Nat} {Q : State → Prop}
variable {cc : ByteArray} {nL : Nat} {Ts : List Cond} {own : String} {D : va_G} {Z : Nat → Nat} {N0 : Nat} {pc : Nat} {ls : Array Slot} {rest : List Value} {A : Nat → Prop} {ws : va_W}
theorem q_newa (M : Mx p m c cc nL s args Ts own D Z N0) (hP : va_P D vwCl ws H) (hD : va_D A ws) (hS : va_S A H0 H locs) (hA : ∀ q, H0.size ≤ q → A q) {atype : ArrayType} (hin : Cond.arrayClass (newarray.typeOf atype) ∈ Ts) {ty : FieldType} (hty : newarray.typeOf atype = ty) (t : Nat) (ht : (tyL Z)[t]? = some (Z t, ty)) (hra : ∀ cA, va_RA s cA ty → s.vm.findClass ("[" ++ ty.toString) = some cA)
    {n : Nat} (hn0 : ¬ nI n < 0) (hn : (nI n).toNatClampNeg = n) {a0 : vp_A} (ha : ∀ cA : ClassId, vp_cell cA a0 = arrV cA n (fun _ => defaultValue ty)) (hbytes : n * componentBytes ty ≤ 536870912) (hcells : cells + 1 ≤ R.cells) (hslots : slots + n ≤ R.slots) (hdg : decode cc pc = .ok (.newarray atype, 2))
    (kk : ∀ (q : Nat) (H1 : Heap), va_P D vwCl (ws ++ [(q, .inl (Z t, a0))]) H1 → va_D A (ws ++ [(q, .inl (Z t, a0))]) → va_S A H0 H1 locs → W p l e R s m args below meth c H1 locs (cells + 1) (slots + n) Q (F0 m (pc + 2) ls (.ref q :: rest))) : W p l e R s m args below meth c H locs cells slots Q (F0 m pc ls (.int (nI n) :: rest)) := by
  obtain ⟨⟨hx, hb, hml, hown, hts⟩, hK, -, -⟩ := M
  refine va_newa (tys := tyL Z) hx hb (hts _ hin) hty hK hP hD hS hA ha hn0 hn hbytes hcells hslots hdg (fun q cA H1 hK1 hP1 hD1 hS1 => ?_)
  have e1 := hra cA (hK1.2 6 (cA, ty) rfl).2
  have e2 := hra (Z t) (hK.2 t _ ht).2
  obtain rfl : cA = Z t := Option.some.inj (e1.symm.trans e2)
  exact kk q H1 hP1 hD1 hS1
theorem q_newq (M : Mx p m c cc nL s args Ts own D Z N0) (hP : va_P D vwCl ws H) (hD : va_D A ws) (hS : va_S A H0 H locs) (hA : ∀ q, H0.size ≤ q → A q) {C : String} {index : Nat} (hin : Cond.classLink own index C ∈ Ts) (hao : va_AO C s) (t : Nat) (ht : (tyL Z)[t]? = some (Z t, .object C))
    {n : Nat} (hn0 : ¬ nI n < 0) (hn : (nI n).toNatClampNeg = n) (hbytes : n * 4 ≤ 536870912) (hcells : cells + 1 ≤ R.cells) (hslots : slots + n ≤ R.slots) (hdg : decode cc pc = .ok (.anewarray index, 3))
    (kk : ∀ (q : Nat) (H1 : Heap), va_P D vwCl (ws ++ [(q, .inl (Z t, n, .inr (.inr (.inr (.inr (fun _ => none))))))]) H1 → va_D A (ws ++ [(q, .inl (Z t, n, .inr (.inr (.inr (.inr (fun _ => none))))))]) → va_S A H0 H1 locs → W p l e R s m args below meth c H1 locs (cells + 1) (slots + n) Q (F0 m (pc + 3) ls (.ref q :: rest))) : W p l e R s m args below meth c H locs cells slots Q (F0 m pc ls (.int (nI n) :: rest)) := by
  obtain ⟨⟨hx, hb, hml, hown, hts⟩, hK, -, -⟩ := M
  refine va_newq (tys := tyL Z) hx hb hown (hts _ hin) hao hK hP hD hS hA hn0 hn hbytes hcells hslots hdg (fun q cA H1 hK1 hP1 hD1 hS1 => ?_)
  obtain ⟨_, _, _, _, _, e1⟩ := (hK1.2 6 (cA, .object C) rfl).2
  obtain ⟨_, _, _, _, _, e2⟩ := (hK.2 t _ ht).2
  obtain rfl : cA = Z t := Option.some.inj (e1.symm.trans e2)
  exact kk q H1 hP1 hD1 hS1
end RAW
set_option maxHeartbeats 4000000 in
set_option maxRecDepth 100000 in
theorem c_X0_init (l : Launch) (D : va_G) (Z : Nat → Nat) (N0 h0 sz : Nat) (a : Nat) (b : Nat) (d : Nat) : Met l yX0_init wsX0_init ({ frames := 1, cells := 0, slots := 0, locals := 100 } : Room) (PR D Z N0 sz [(h0, .inr (3, [.int (nI 0), .int (nI 0), .int (nI 0), .int (nI 0)]))] [.ref h0, .int (nI (a)), .int (nI (b)), .int (nI (d))]) (QRw D [(h0, .inr (3, [.int (nI 0), .int (nI 0), .int (nI 0), .int (nI 0)]))] sz (fun ws => ws = [(h0, .inr (3, [.int (nI (a)), .int (nI (b)), .int (nI (d)), .int (nI 0)]))])) 0 0 (va_A [(h0, .inr (3, [.int (nI 0), .int (nI 0), .int (nI 0), .int (nI 0)]))] sz) := by
  refine Met.ofW (cc := cX0_init) (maxL := 4) (ret := none) (by decide) rfl ?_
  intro pP eP sP mP args below meth cP s₁ B hmlP hvP
  obtain ⟨rfl, hsz, hP, hD0, hC⟩ := hvP
  have hx := B.exec
  have hb := B.bytes
  have hr := B.returns
  have hts := atoms_spec (ws := wsX0_init) B.pre
  have hown : sP.vm.findClass RX0 = some mP.cls := findClass_of_methodNamed B.named
  have hlocks := B.notSynchronized
  have hin2 : meth.name = "<init>" := (name_of_methodNamed B.named B.method).1
  have w0_z : Cond.methodLink RX0 1 objectInit ∈ wsX0_init := by decide +kernel
  have w1_z : Cond.instanceMethod objectInit ∈ wsX0_init := by decide +kernel
  have w2_z : Cond.code objectInit ⟨#[0xb1]⟩ 1 none ∈ wsX0_init := by decide +kernel
  have w3_z : Cond.fieldLink RX0 7 "StartChain$Image" "key" "I" ∈ wsX0_init := by decide +kernel
  have i_X0 : ∀ w ∈ wsX00, w ∈ wsX0_init := (fun _ h => List.mem_cons_of_mem _ (List.mem_append_right _ h))
  have w5_z : Cond.fieldLink RX0 13 "StartChain$Image" "version" "I" ∈ wsX0_init := by decide +kernel
  have w6_z : Cond.fieldLink RX0 16 "StartChain$Image" "measure" "I" ∈ wsX0_init := by decide +kernel
  have w7_z : Cond.fieldLink RX0 19 "StartChain$Image" "isBad" "Z" ∈ wsX0_init := by decide +kernel
  subst hsz
  have hD := hD0.self (sz := sP.heap.size)
  have hNA : ∀ q, va_A [(h0, .inr (3, [.int (nI 0), .int (nI 0), .int (nI 0), .int (nI 0)]))] sP.heap.size q → AA N0 q := fun q h => raw_N hD0 hC.2.1 h
  generalize hAe : va_A [(h0, .inr (3, [.int (nI 0), .int (nI 0), .int (nI 0), .int (nI 0)]))] sP.heap.size = A at hD hNA ⊢
  have hA : ∀ q : Nat, sP.heap.size ≤ q → A q := fun q h => by rw [← hAe]; exact Or.inr h
  have M : Mx pP mP cP cX0_init 4 sP ([.ref h0, .int (nI (a)), .int (nI (b)), .int (nI (d))] : List Value).toArray wsX0_init RX0 D Z N0 := ⟨⟨hx, hb, hmlP, hown, hts⟩, hC⟩
  have hS : va_S A sP.heap sP.heap [] := va_S.rf
  have hP : va_P D vwCl [(h0, .inr (3, [.int (nI 0), .int (nI 0), .int (nI 0), .int (nI 0)]))] sP.heap := hP
  have hl := lv_entry ([.ref h0, .int (nI (a)), .int (nI (b)), .int (nI (d))]) (n := 4) (Nat.le_of_ble_eq_true rfl)
  rw [lg_entry_eq]
  generalize (lg_sl ([.ref h0, .int (nI (a)), .int (nI (b)), .int (nI (d))]) ++ List.replicate (4 - (lg_sl ([.ref h0, .int (nI (a)), .int (nI (b)), .int (nI (d))])).length) Slot.unset).toArray = ls at hl ⊢
  have hl : lv_has ls 4 [(0, .ref h0), (1, .int (nI (a))), (2, .int (nI (b))), (3, .int (nI (d)))] := hl
  refine lv_aload_n hx hb dX0_init_0 rfl (lv_at hl 0 rfl) ?_
  refine W.objInit hx hb hown (hts _ w0_z) (hts _ w1_z) (hts _ w2_z) rfl (by rw [hmlP]; exact hl.1) rfl dX0_init_1 (Nat.le_of_ble_eq_true rfl) (Nat.le_of_ble_eq_true rfl) ?_
  refine W.eq (g2 := F0 mP 4 ls []) rfl ?_
  refine lv_aload_n hx hb dX0_init_4 rfl (lv_at hl 0 rfl) ?_
  refine lv_iload_n hx hb dX0_init_5 rfl (lv_at hl 1 rfl) ?_
  refine va_putF (D := D) (ci := 3) (v := .int (nI (a))) (ty := .int) (C := RX0) (T := TX0) (N := 4) hx hb hts i_X0 tyX0 tyX0_ok nmX0 hown M.2.1 hP hD hS 0 rfl rfl 0 (by decide) (hts _ w3_z) (fun _ h9 => h9) rfl hin2 rfl (by decide +kernel) rfl rfl (Nat.le_of_ble_eq_true rfl) dX0_init_6 (fun H locs hP hD hS => ?_)
  have hP : va_P D vwCl [(h0, .inr (3, [.int (nI (a)), .int (nI 0), .int (nI 0), .int (nI 0)]))] H := hP
  have hD : va_D A [(h0, .inr (3, [.int (nI (a)), .int (nI 0), .int (nI 0), .int (nI 0)]))] := hD
  refine lv_aload_n hx hb dX0_init_9 rfl (lv_at hl 0 rfl) ?_
  refine lv_iload_n hx hb dX0_init_10 rfl (lv_at hl 2 rfl) ?_
  refine va_putF (D := D) (ci := 3) (v := .int (nI (b))) (ty := .int) (C := RX0) (T := TX0) (N := 4) hx hb hts i_X0 tyX0 tyX0_ok nmX0 hown M.2.1 hP hD hS 0 rfl rfl 1 (by decide) (hts _ w5_z) (fun _ h9 => h9) rfl hin2 rfl (by decide +kernel) rfl rfl (Nat.le_of_ble_eq_true rfl) dX0_init_11 (fun H locs hP hD hS => ?_)
  have hP : va_P D vwCl [(h0, .inr (3, [.int (nI (a)), .int (nI (b)), .int (nI 0), .int (nI 0)]))] H := hP
  have hD : va_D A [(h0, .inr (3, [.int (nI (a)), .int (nI (b)), .int (nI 0), .int (nI 0)]))] := hD
  refine lv_aload_n hx hb dX0_init_14 rfl (lv_at hl 0 rfl) ?_
  refine lv_iload_n hx hb dX0_init_15 rfl (lv_at hl 3 rfl) ?_
  refine va_putF (D := D) (ci := 3) (v := .int (nI (d))) (ty := .int) (C := RX0) (T := TX0) (N := 4) hx hb hts i_X0 tyX0 tyX0_ok nmX0 hown M.2.1 hP hD hS 0 rfl rfl 2 (by decide) (hts _ w6_z) (fun _ h9 => h9) rfl hin2 rfl (by decide +kernel) rfl rfl (Nat.le_of_ble_eq_true rfl) dX0_init_16 (fun H locs hP hD hS => ?_)
  have hP : va_P D vwCl [(h0, .inr (3, [.int (nI (a)), .int (nI (b)), .int (nI (d)), .int (nI 0)]))] H := hP
  have hD : va_D A [(h0, .inr (3, [.int (nI (a)), .int (nI (b)), .int (nI (d)), .int (nI 0)]))] := hD
  refine lv_aload_n hx hb dX0_init_19 rfl (lv_at hl 0 rfl) ?_
  refine lv_iconst (v := nI 0) hx hb dX0_init_20 (by decide) ?_
  refine va_put (D := D) (ci := 3) (v := .int (nI 0)) (ty := .boolean) (C := RX0) (T := TX0) (N := 4) hx hb hts i_X0 tyX0 tyX0_ok nmX0 hown M.2.1 hP hD hS 0 rfl rfl 3 (by decide) (hts _ w7_z) (fun _ h9 => h9) rfl (by decide +kernel) (by decide) (by decide) (Nat.le_of_ble_eq_true rfl) dX0_init_21 (fun H locs hP hD hS => ?_)
  have hP : va_P D vwCl [(h0, .inr (3, [.int (nI (a)), .int (nI (b)), .int (nI (d)), .int (nI 0)]))] H := hP
  have hD : va_D A [(h0, .inr (3, [.int (nI (a)), .int (nI (b)), .int (nI (d)), .int (nI 0)]))] := hD
  subst hAe
  exact W.vret hx hb hr (fun t ht hW9 => ⟨⟨_, rfl, rfl, by rw [ht]; exact hP, hD⟩, hS.F ht⟩) hS.2.2 dX0_init_24
set_option maxHeartbeats 4000000 in
set_option maxRecDepth 100000 in
theorem c_X2_init (l : Launch) (D : va_G) (Z : Nat → Nat) (N0 h0 sz : Nat) (a : Nat) (b : Nat) : Met l yX2_init wsX2_init ({ frames := 1, cells := 1, slots := 3, locals := 100 } : Room) (PR D Z N0 sz [(h0, .inr (5, [.int (nI 0), .int (nI 0), .null]))] [.ref h0, .int (nI (a)), .int (nI (b))]) (QRw D [(h0, .inr (5, [.int (nI 0), .int (nI 0), .null]))] sz (fun ws => ∃ q1_z : Nat, ws = [(h0, .inr (5, [.int (nI (a)), .int (nI (b)), .ref q1_z])), (q1_z, .inl (Z 0, 3, .inl fun _ => nI 0))])) 1 3 (va_A [(h0, .inr (5, [.int (nI 0), .int (nI 0), .null]))] sz) := by
  refine Met.ofW (cc := cX2_init) (maxL := 3) (ret := none) (by decide) rfl ?_
  intro pP eP sP mP args below meth cP s₁ B hmlP hvP
  obtain ⟨rfl, hsz, hP, hD0, hC⟩ := hvP
  have hx := B.exec
  have hb := B.bytes
  have hr := B.returns
  have hts := atoms_spec (ws := wsX2_init) B.pre
  have hown : sP.vm.findClass RX2 = some mP.cls := findClass_of_methodNamed B.named
  have hlocks := B.notSynchronized
  have hin2 : meth.name = "<init>" := (name_of_methodNamed B.named B.method).1
  have w0_z : Cond.methodLink RX2 3 objectInit ∈ wsX2_init := by decide +kernel
  have w1_z : Cond.instanceMethod objectInit ∈ wsX2_init := by decide +kernel
  have w2_z : Cond.code objectInit ⟨#[0xb1]⟩ 1 none ∈ wsX2_init := by decide +kernel
  have w3_z : Cond.fieldLink RX2 9 "StartChain$Secret" "registers" "I" ∈ wsX2_init := by decide +kernel
  have i_X2 : ∀ w ∈ wsX20, w ∈ wsX2_init := (fun _ h => List.mem_cons_of_mem _ (List.mem_append_right _ h))
  have w5_z : Cond.fieldLink RX2 15 "StartChain$Secret" "people" "I" ∈ wsX2_init := by decide +kernel
  have w6_z : Cond.arrayClass .int ∈ wsX2_init := by decide +kernel
  have w7_z : Cond.fieldLink RX2 18 "StartChain$Secret" "values" "[I" ∈ wsX2_init := by decide +kernel
  subst hsz
  have hD := hD0.self (sz := sP.heap.size)
  have hNA : ∀ q, va_A [(h0, .inr (5, [.int (nI 0), .int (nI 0), .null]))] sP.heap.size q → AA N0 q := fun q h => raw_N hD0 hC.2.1 h
  generalize hAe : va_A [(h0, .inr (5, [.int (nI 0), .int (nI 0), .null]))] sP.heap.size = A at hD hNA ⊢
  have hA : ∀ q : Nat, sP.heap.size ≤ q → A q := fun q h => by rw [← hAe]; exact Or.inr h
  have M : Mx pP mP cP cX2_init 3 sP ([.ref h0, .int (nI (a)), .int (nI (b))] : List Value).toArray wsX2_init RX2 D Z N0 := ⟨⟨hx, hb, hmlP, hown, hts⟩, hC⟩
  have hS : va_S A sP.heap sP.heap [] := va_S.rf
  have hP : va_P D vwCl [(h0, .inr (5, [.int (nI 0), .int (nI 0), .null]))] sP.heap := hP
  have hl := lv_entry ([.ref h0, .int (nI (a)), .int (nI (b))]) (n := 3) (Nat.le_of_ble_eq_true rfl)
  rw [lg_entry_eq]
  generalize (lg_sl ([.ref h0, .int (nI (a)), .int (nI (b))]) ++ List.replicate (3 - (lg_sl ([.ref h0, .int (nI (a)), .int (nI (b))])).length) Slot.unset).toArray = ls at hl ⊢
  have hl : lv_has ls 3 [(0, .ref h0), (1, .int (nI (a))), (2, .int (nI (b)))] := hl
  refine lv_aload_n hx hb dX2_init_0 rfl (lv_at hl 0 rfl) ?_
  refine W.objInit hx hb hown (hts _ w0_z) (hts _ w1_z) (hts _ w2_z) rfl (by rw [hmlP]; exact hl.1) rfl dX2_init_1 (Nat.le_of_ble_eq_true rfl) (Nat.le_of_ble_eq_true rfl) ?_
  refine W.eq (g2 := F0 mP 4 ls []) rfl ?_
  refine lv_aload_n hx hb dX2_init_4 rfl (lv_at hl 0 rfl) ?_
  refine lv_iload_n hx hb dX2_init_5 rfl (lv_at hl 1 rfl) ?_
  refine va_putF (D := D) (ci := 5) (v := .int (nI (a))) (ty := .int) (C := RX2) (T := TX2) (N := 3) hx hb hts i_X2 tyX2 tyX2_ok nmX2 hown M.2.1 hP hD hS 0 rfl rfl 0 (by decide) (hts _ w3_z) (fun _ h9 => h9) rfl hin2 rfl (by decide +kernel) rfl rfl (Nat.le_of_ble_eq_true rfl) dX2_init_6 (fun H locs hP hD hS => ?_)
  have hP : va_P D vwCl [(h0, .inr (5, [.int (nI (a)), .int (nI 0), .null]))] H := hP
  have hD : va_D A [(h0, .inr (5, [.int (nI (a)), .int (nI 0), .null]))] := hD
  refine lv_aload_n hx hb dX2_init_9 rfl (lv_at hl 0 rfl) ?_
  refine lv_iload_n hx hb dX2_init_10 rfl (lv_at hl 2 rfl) ?_
  refine va_putF (D := D) (ci := 5) (v := .int (nI (b))) (ty := .int) (C := RX2) (T := TX2) (N := 3) hx hb hts i_X2 tyX2 tyX2_ok nmX2 hown M.2.1 hP hD hS 0 rfl rfl 1 (by decide) (hts _ w5_z) (fun _ h9 => h9) rfl hin2 rfl (by decide +kernel) rfl rfl (Nat.le_of_ble_eq_true rfl) dX2_init_11 (fun H locs hP hD hS => ?_)
  have hP : va_P D vwCl [(h0, .inr (5, [.int (nI (a)), .int (nI (b)), .null]))] H := hP
  have hD : va_D A [(h0, .inr (5, [.int (nI (a)), .int (nI (b)), .null]))] := hD
  refine lv_aload_n hx hb dX2_init_14 rfl (lv_at hl 0 rfl) ?_
  refine lv_iconst (v := nI 3) hx hb dX2_init_15 (by decide) ?_
  refine q_newa (atype := .int) (ty := .int) (n := 3) M hP hD hS hA w6_z rfl 0 rfl (fun _ h9 => h9) (by decide) (by decide) (a0 := (3, .inl fun _ => nI 0)) (fun cA => by rw [vp_cell_i]; rfl) (Nat.le_of_ble_eq_true rfl) (Nat.le_of_ble_eq_true rfl) (Nat.le_of_ble_eq_true rfl) dX2_init_16 (fun q1_z H hP hD hS => ?_)
  have hP : va_P D vwCl [(h0, .inr (5, [.int (nI (a)), .int (nI (b)), .null])), (q1_z, .inl (Z 0, 3, .inl fun _ => nI 0))] H := hP
  have hD : va_D A [(h0, .inr (5, [.int (nI (a)), .int (nI (b)), .null])), (q1_z, .inl (Z 0, 3, .inl fun _ => nI 0))] := hD
  refine va_putF (D := D) (ci := 5) (v := .ref q1_z) (ty := (.array .int)) (C := RX2) (T := TX2) (N := 3) hx hb hts i_X2 tyX2 tyX2_ok nmX2 hown M.2.1 hP hD hS 0 rfl rfl 2 (by decide) (hts _ w7_z) (fun _ h9 => h9) rfl hin2 rfl (by decide +kernel) rfl rfl (Nat.le_of_ble_eq_true rfl) dX2_init_18 (fun H locs hP hD hS => ?_)
  have hP : va_P D vwCl [(h0, .inr (5, [.int (nI (a)), .int (nI (b)), .ref q1_z])), (q1_z, .inl (Z 0, 3, .inl fun _ => nI 0))] H := hP
  have hD : va_D A [(h0, .inr (5, [.int (nI (a)), .int (nI (b)), .ref q1_z])), (q1_z, .inl (Z 0, 3, .inl fun _ => nI 0))] := hD
  refine W.widen (k := 1) (n := 3) (Nat.le_of_ble_eq_true rfl) (Nat.le_of_ble_eq_true rfl) ?_
  subst hAe
  exact W.vret hx hb hr (fun t ht hW9 => ⟨⟨_, rfl, ⟨q1_z, rfl⟩, by rw [ht]; exact hP, hD⟩, hS.F ht⟩) hS.2.2 dX2_init_21
set_option maxHeartbeats 4000000 in
set_option maxRecDepth 100000 in
theorem c_X3_init (l : Launch) (D : va_G) (Z : Nat → Nat) (N0 h0 sz : Nat) (a : Nat) : Met l yX3_init wsX3_init ({ frames := 1, cells := 1, slots := 2, locals := 100 } : Room) (PR D Z N0 sz [(h0, .inr (6, [.int (nI 0), .null, .int (nI 0), .int (nI 0)]))] [.ref h0, .int (nI (a))]) (QRw D [(h0, .inr (6, [.int (nI 0), .null, .int (nI 0), .int (nI 0)]))] sz (fun ws => ∃ q1_z : Nat, ws = [(h0, .inr (6, [.int (nI (a)), .ref q1_z, .int (nI 0), .int (nI 0)])), (q1_z, .inl (Z 3, 2, .inr (.inr (.inr (.inr (fun _ => none))))))])) 1 2 (va_A [(h0, .inr (6, [.int (nI 0), .null, .int (nI 0), .int (nI 0)]))] sz) := by
  refine Met.ofW (cc := cX3_init) (maxL := 2) (ret := none) (by decide) rfl ?_
  intro pP eP sP mP args below meth cP s₁ B hmlP hvP
  obtain ⟨rfl, hsz, hP, hD0, hC⟩ := hvP
  have hx := B.exec
  have hb := B.bytes
  have hr := B.returns
  have hts := atoms_spec (ws := wsX3_init) B.pre
  have hown : sP.vm.findClass RX3 = some mP.cls := findClass_of_methodNamed B.named
  have hlocks := B.notSynchronized
  have hin2 : meth.name = "<init>" := (name_of_methodNamed B.named B.method).1
  have w0_z : Cond.methodLink RX3 3 objectInit ∈ wsX3_init := by decide +kernel
  have w1_z : Cond.instanceMethod objectInit ∈ wsX3_init := by decide +kernel
  have w2_z : Cond.code objectInit ⟨#[0xb1]⟩ 1 none ∈ wsX3_init := by decide +kernel
  have w3_z : Cond.fieldLink RX3 9 "StartChain$Stage" "register" "I" ∈ wsX3_init := by decide +kernel
  have i_X3 : ∀ w ∈ wsX30, w ∈ wsX3_init := (fun _ h => List.mem_cons_of_mem _ (List.mem_append_right _ h))
  have w5_z : Cond.classLink RX3 15 RX0 ∈ wsX3_init := by decide +kernel
  have w6_z : Cond.fieldLink RX3 17 "StartChain$Stage" "images" "[LStartChain$Image;" ∈ wsX3_init := by decide +kernel
  have w7_z : Cond.fieldLink RX3 21 "StartChain$Stage" "active" "I" ∈ wsX3_init := by decide +kernel
  have w8_z : Cond.fieldLink RX3 24 "StartChain$Stage" "counter" "I" ∈ wsX3_init := by decide +kernel
  subst hsz
  have hD := hD0.self (sz := sP.heap.size)
  have hNA : ∀ q, va_A [(h0, .inr (6, [.int (nI 0), .null, .int (nI 0), .int (nI 0)]))] sP.heap.size q → AA N0 q := fun q h => raw_N hD0 hC.2.1 h
  generalize hAe : va_A [(h0, .inr (6, [.int (nI 0), .null, .int (nI 0), .int (nI 0)]))] sP.heap.size = A at hD hNA ⊢
  have hA : ∀ q : Nat, sP.heap.size ≤ q → A q := fun q h => by rw [← hAe]; exact Or.inr h
  have M : Mx pP mP cP cX3_init 2 sP ([.ref h0, .int (nI (a))] : List Value).toArray wsX3_init RX3 D Z N0 := ⟨⟨hx, hb, hmlP, hown, hts⟩, hC⟩
  have hS : va_S A sP.heap sP.heap [] := va_S.rf
  have hP : va_P D vwCl [(h0, .inr (6, [.int (nI 0), .null, .int (nI 0), .int (nI 0)]))] sP.heap := hP
  have hl := lv_entry ([.ref h0, .int (nI (a))]) (n := 2) (Nat.le_of_ble_eq_true rfl)
  rw [lg_entry_eq]
  generalize (lg_sl ([.ref h0, .int (nI (a))]) ++ List.replicate (2 - (lg_sl ([.ref h0, .int (nI (a))])).length) Slot.unset).toArray = ls at hl ⊢
  have hl : lv_has ls 2 [(0, .ref h0), (1, .int (nI (a)))] := hl
  refine lv_aload_n hx hb dX3_init_0 rfl (lv_at hl 0 rfl) ?_
  refine W.objInit hx hb hown (hts _ w0_z) (hts _ w1_z) (hts _ w2_z) rfl (by rw [hmlP]; exact hl.1) rfl dX3_init_1 (Nat.le_of_ble_eq_true rfl) (Nat.le_of_ble_eq_true rfl) ?_
  refine W.eq (g2 := F0 mP 4 ls []) rfl ?_
  refine lv_aload_n hx hb dX3_init_4 rfl (lv_at hl 0 rfl) ?_
  refine lv_iload_n hx hb dX3_init_5 rfl (lv_at hl 1 rfl) ?_
  refine va_putF (D := D) (ci := 6) (v := .int (nI (a))) (ty := .int) (C := RX3) (T := TX3) (N := 4) hx hb hts i_X3 tyX3 tyX3_ok nmX3 hown M.2.1 hP hD hS 0 rfl rfl 0 (by decide) (hts _ w3_z) (fun _ h9 => h9) rfl hin2 rfl (by decide +kernel) rfl rfl (Nat.le_of_ble_eq_true rfl) dX3_init_6 (fun H locs hP hD hS => ?_)
  have hP : va_P D vwCl [(h0, .inr (6, [.int (nI (a)), .null, .int (nI 0), .int (nI 0)]))] H := hP
  have hD : va_D A [(h0, .inr (6, [.int (nI (a)), .null, .int (nI 0), .int (nI 0)]))] := hD
  refine lv_aload_n hx hb dX3_init_9 rfl (lv_at hl 0 rfl) ?_
  refine lv_iconst (v := nI 2) hx hb dX3_init_10 (by decide) ?_
  refine q_newq (C := "StartChain$Image") (n := 2) M hP hD hS hA w5_z hC.2.2.ao2 3 rfl (by decide) (by decide) (Nat.le_of_ble_eq_true rfl) (Nat.le_of_ble_eq_true rfl) (Nat.le_of_ble_eq_true rfl) dX3_init_11 (fun q1_z H hP hD hS => ?_)
  have hP : va_P D vwCl [(h0, .inr (6, [.int (nI (a)), .null, .int (nI 0), .int (nI 0)])), (q1_z, .inl (Z 3, 2, .inr (.inr (.inr (.inr (fun _ => none))))))] H := hP
  have hD : va_D A [(h0, .inr (6, [.int (nI (a)), .null, .int (nI 0), .int (nI 0)])), (q1_z, .inl (Z 3, 2, .inr (.inr (.inr (.inr (fun _ => none))))))] := hD
  refine va_putF (D := D) (ci := 6) (v := .ref q1_z) (ty := (.array (.object "StartChain$Image"))) (C := RX3) (T := TX3) (N := 4) hx hb hts i_X3 tyX3 tyX3_ok nmX3 hown M.2.1 hP hD hS 0 rfl rfl 1 (by decide) (hts _ w6_z) (fun _ h9 => h9) rfl hin2 rfl (by decide +kernel) rfl rfl (Nat.le_of_ble_eq_true rfl) dX3_init_14 (fun H locs hP hD hS => ?_)
  have hP : va_P D vwCl [(h0, .inr (6, [.int (nI (a)), .ref q1_z, .int (nI 0), .int (nI 0)])), (q1_z, .inl (Z 3, 2, .inr (.inr (.inr (.inr (fun _ => none))))))] H := hP
  have hD : va_D A [(h0, .inr (6, [.int (nI (a)), .ref q1_z, .int (nI 0), .int (nI 0)])), (q1_z, .inl (Z 3, 2, .inr (.inr (.inr (.inr (fun _ => none))))))] := hD
  refine lv_aload_n hx hb dX3_init_17 rfl (lv_at hl 0 rfl) ?_
  refine lv_iconst (v := nI 0) hx hb dX3_init_18 (by decide) ?_
  refine va_put (D := D) (ci := 6) (v := .int (nI 0)) (ty := .int) (C := RX3) (T := TX3) (N := 4) hx hb hts i_X3 tyX3 tyX3_ok nmX3 hown M.2.1 hP hD hS 0 rfl rfl 2 (by decide) (hts _ w7_z) (fun _ h9 => h9) rfl (by decide +kernel) rfl rfl (Nat.le_of_ble_eq_true rfl) dX3_init_19 (fun H locs hP hD hS => ?_)
  have hP : va_P D vwCl [(h0, .inr (6, [.int (nI (a)), .ref q1_z, .int (nI 0), .int (nI 0)])), (q1_z, .inl (Z 3, 2, .inr (.inr (.inr (.inr (fun _ => none))))))] H := hP
  have hD : va_D A [(h0, .inr (6, [.int (nI (a)), .ref q1_z, .int (nI 0), .int (nI 0)])), (q1_z, .inl (Z 3, 2, .inr (.inr (.inr (.inr (fun _ => none))))))] := hD
  refine lv_aload_n hx hb dX3_init_22 rfl (lv_at hl 0 rfl) ?_
  refine lv_iconst (v := nI 0) hx hb dX3_init_23 (by decide) ?_
  refine va_put (D := D) (ci := 6) (v := .int (nI 0)) (ty := .int) (C := RX3) (T := TX3) (N := 4) hx hb hts i_X3 tyX3 tyX3_ok nmX3 hown M.2.1 hP hD hS 0 rfl rfl 3 (by decide) (hts _ w8_z) (fun _ h9 => h9) rfl (by decide +kernel) rfl rfl (Nat.le_of_ble_eq_true rfl) dX3_init_24 (fun H locs hP hD hS => ?_)
  have hP : va_P D vwCl [(h0, .inr (6, [.int (nI (a)), .ref q1_z, .int (nI 0), .int (nI 0)])), (q1_z, .inl (Z 3, 2, .inr (.inr (.inr (.inr (fun _ => none))))))] H := hP
  have hD : va_D A [(h0, .inr (6, [.int (nI (a)), .ref q1_z, .int (nI 0), .int (nI 0)])), (q1_z, .inl (Z 3, 2, .inr (.inr (.inr (.inr (fun _ => none))))))] := hD
  refine W.widen (k := 1) (n := 2) (Nat.le_of_ble_eq_true rfl) (Nat.le_of_ble_eq_true rfl) ?_
  subst hAe
  exact W.vret hx hb hr (fun t ht hW9 => ⟨⟨_, rfl, ⟨q1_z, rfl⟩, by rw [ht]; exact hP, hD⟩, hS.F ht⟩) hS.2.2 dX3_init_27
set_option maxHeartbeats 4000000 in
set_option maxRecDepth 100000 in
theorem c_X1_init (l : Launch) (D : va_G) (Z : Nat → Nat) (N0 h0 sz : Nat) : Met l yX1_init wsX1_init ({ frames := 1, cells := 4, slots := 27, locals := 100 } : Room) (PR D Z N0 sz [(h0, .inr (4, [.null, .null, .int (nI 0), .null, .null, .int (nI 0), .int (nI 0)]))] [.ref h0]) (QRw D [(h0, .inr (4, [.null, .null, .int (nI 0), .null, .null, .int (nI 0), .int (nI 0)]))] sz (fun ws => ∃ q1_z q2_z q3_z q4_z : Nat, ws = [(h0, .inr (4, [.ref q1_z, .ref q2_z, .int (nI 0), .ref q3_z, .ref q4_z, .int (nI 0), .int (nI 0)])), (q1_z, .inl (Z 0, 3, .inl fun _ => nI 0)), (q2_z, .inl (Z 0, 12, .inl fun _ => nI 0)), (q3_z, .inl (Z 0, 6, .inl fun _ => nI 0)), (q4_z, .inl (Z 0, 6, .inl fun _ => nI 0))])) 4 27 (va_A [(h0, .inr (4, [.null, .null, .int (nI 0), .null, .null, .int (nI 0), .int (nI 0)]))] sz) := by
  refine Met.ofW (cc := cX1_init) (maxL := 1) (ret := none) (by decide) rfl ?_
  intro pP eP sP mP args below meth cP s₁ B hmlP hvP
  obtain ⟨rfl, hsz, hP, hD0, hC⟩ := hvP
  have hx := B.exec
  have hb := B.bytes
  have hr := B.returns
  have hts := atoms_spec (ws := wsX1_init) B.pre
  have hown : sP.vm.findClass RX1 = some mP.cls := findClass_of_methodNamed B.named
  have hlocks := B.notSynchronized
  have hin2 : meth.name = "<init>" := (name_of_methodNamed B.named B.method).1
  have w0_z : Cond.methodLink RX1 3 objectInit ∈ wsX1_init := by decide +kernel
  have w1_z : Cond.instanceMethod objectInit ∈ wsX1_init := by decide +kernel
  have w2_z : Cond.code objectInit ⟨#[0xb1]⟩ 1 none ∈ wsX1_init := by decide +kernel
  have w3_z : Cond.arrayClass .int ∈ wsX1_init := by decide +kernel
  have w4_z : Cond.fieldLink RX1 9 "StartChain$Pass" "registers" "[I" ∈ wsX1_init := by decide +kernel
  have i_X1 : ∀ w ∈ wsX10, w ∈ wsX1_init := (fun _ h => List.mem_cons_of_mem _ (List.mem_append_right _ h))
  have w6_z : Cond.fieldLink RX1 15 "StartChain$Pass" "log" "[I" ∈ wsX1_init := by decide +kernel
  have w7_z : Cond.fieldLink RX1 18 "StartChain$Pass" "entryCount" "I" ∈ wsX1_init := by decide +kernel
  have w8_z : Cond.fieldLink RX1 22 "StartChain$Pass" "slots" "[I" ∈ wsX1_init := by decide +kernel
  have w9_z : Cond.fieldLink RX1 25 "StartChain$Pass" "versions" "[I" ∈ wsX1_init := by decide +kernel
  have w10_z : Cond.fieldLink RX1 28 "StartChain$Pass" "ranCount" "I" ∈ wsX1_init := by decide +kernel
  have w11_z : Cond.fieldLink RX1 31 "StartChain$Pass" "fallbackCount" "I" ∈ wsX1_init := by decide +kernel
  subst hsz
  have hD := hD0.self (sz := sP.heap.size)
  have hNA : ∀ q, va_A [(h0, .inr (4, [.null, .null, .int (nI 0), .null, .null, .int (nI 0), .int (nI 0)]))] sP.heap.size q → AA N0 q := fun q h => raw_N hD0 hC.2.1 h
  generalize hAe : va_A [(h0, .inr (4, [.null, .null, .int (nI 0), .null, .null, .int (nI 0), .int (nI 0)]))] sP.heap.size = A at hD hNA ⊢
  have hA : ∀ q : Nat, sP.heap.size ≤ q → A q := fun q h => by rw [← hAe]; exact Or.inr h
  have M : Mx pP mP cP cX1_init 1 sP ([.ref h0] : List Value).toArray wsX1_init RX1 D Z N0 := ⟨⟨hx, hb, hmlP, hown, hts⟩, hC⟩
  have hS : va_S A sP.heap sP.heap [] := va_S.rf
  have hP : va_P D vwCl [(h0, .inr (4, [.null, .null, .int (nI 0), .null, .null, .int (nI 0), .int (nI 0)]))] sP.heap := hP
  have hl := lv_entry ([.ref h0]) (n := 1) (Nat.le_of_ble_eq_true rfl)
  rw [lg_entry_eq]
  generalize (lg_sl ([.ref h0]) ++ List.replicate (1 - (lg_sl ([.ref h0])).length) Slot.unset).toArray = ls at hl ⊢
  have hl : lv_has ls 1 [(0, .ref h0)] := hl
  refine lv_aload_n hx hb dX1_init_0 rfl (lv_at hl 0 rfl) ?_
  refine W.objInit hx hb hown (hts _ w0_z) (hts _ w1_z) (hts _ w2_z) rfl (by rw [hmlP]; exact hl.1) rfl dX1_init_1 (Nat.le_of_ble_eq_true rfl) (Nat.le_of_ble_eq_true rfl) ?_
  refine W.eq (g2 := F0 mP 4 ls []) rfl ?_
  refine lv_aload_n hx hb dX1_init_4 rfl (lv_at hl 0 rfl) ?_
  refine lv_iconst (v := nI 3) hx hb dX1_init_5 (by decide) ?_
  refine q_newa (atype := .int) (ty := .int) (n := 3) M hP hD hS hA w3_z rfl 0 rfl (fun _ h9 => h9) (by decide) (by decide) (a0 := (3, .inl fun _ => nI 0)) (fun cA => by rw [vp_cell_i]; rfl) (Nat.le_of_ble_eq_true rfl) (Nat.le_of_ble_eq_true rfl) (Nat.le_of_ble_eq_true rfl) dX1_init_6 (fun q1_z H hP hD hS => ?_)
  have hP : va_P D vwCl [(h0, .inr (4, [.null, .null, .int (nI 0), .null, .null, .int (nI 0), .int (nI 0)])), (q1_z, .inl (Z 0, 3, .inl fun _ => nI 0))] H := hP
  have hD : va_D A [(h0, .inr (4, [.null, .null, .int (nI 0), .null, .null, .int (nI 0), .int (nI 0)])), (q1_z, .inl (Z 0, 3, .inl fun _ => nI 0))] := hD
  refine va_putF (D := D) (ci := 4) (v := .ref q1_z) (ty := (.array .int)) (C := RX1) (T := TX1) (N := 7) hx hb hts i_X1 tyX1 tyX1_ok nmX1 hown M.2.1 hP hD hS 0 rfl rfl 0 (by decide) (hts _ w4_z) (fun _ h9 => h9) rfl hin2 rfl (by decide +kernel) rfl rfl (Nat.le_of_ble_eq_true rfl) dX1_init_8 (fun H locs hP hD hS => ?_)
  have hP : va_P D vwCl [(h0, .inr (4, [.ref q1_z, .null, .int (nI 0), .null, .null, .int (nI 0), .int (nI 0)])), (q1_z, .inl (Z 0, 3, .inl fun _ => nI 0))] H := hP
  have hD : va_D A [(h0, .inr (4, [.ref q1_z, .null, .int (nI 0), .null, .null, .int (nI 0), .int (nI 0)])), (q1_z, .inl (Z 0, 3, .inl fun _ => nI 0))] := hD
  refine lv_aload_n hx hb dX1_init_11 rfl (lv_at hl 0 rfl) ?_
  refine lv_bipush (v := nI 12) hx hb dX1_init_12 (by decide) ?_
  refine q_newa (atype := .int) (ty := .int) (n := 12) M hP hD hS hA w3_z rfl 0 rfl (fun _ h9 => h9) (by decide) (by decide) (a0 := (12, .inl fun _ => nI 0)) (fun cA => by rw [vp_cell_i]; rfl) (Nat.le_of_ble_eq_true rfl) (Nat.le_of_ble_eq_true rfl) (Nat.le_of_ble_eq_true rfl) dX1_init_14 (fun q2_z H hP hD hS => ?_)
  have hP : va_P D vwCl [(h0, .inr (4, [.ref q1_z, .null, .int (nI 0), .null, .null, .int (nI 0), .int (nI 0)])), (q1_z, .inl (Z 0, 3, .inl fun _ => nI 0)), (q2_z, .inl (Z 0, 12, .inl fun _ => nI 0))] H := hP
  have hD : va_D A [(h0, .inr (4, [.ref q1_z, .null, .int (nI 0), .null, .null, .int (nI 0), .int (nI 0)])), (q1_z, .inl (Z 0, 3, .inl fun _ => nI 0)), (q2_z, .inl (Z 0, 12, .inl fun _ => nI 0))] := hD
  refine va_putF (D := D) (ci := 4) (v := .ref q2_z) (ty := (.array .int)) (C := RX1) (T := TX1) (N := 7) hx hb hts i_X1 tyX1 tyX1_ok nmX1 hown M.2.1 hP hD hS 0 rfl rfl 1 (by decide) (hts _ w6_z) (fun _ h9 => h9) rfl hin2 rfl (by decide +kernel) rfl rfl (Nat.le_of_ble_eq_true rfl) dX1_init_16 (fun H locs hP hD hS => ?_)
  have hP : va_P D vwCl [(h0, .inr (4, [.ref q1_z, .ref q2_z, .int (nI 0), .null, .null, .int (nI 0), .int (nI 0)])), (q1_z, .inl (Z 0, 3, .inl fun _ => nI 0)), (q2_z, .inl (Z 0, 12, .inl fun _ => nI 0))] H := hP
  have hD : va_D A [(h0, .inr (4, [.ref q1_z, .ref q2_z, .int (nI 0), .null, .null, .int (nI 0), .int (nI 0)])), (q1_z, .inl (Z 0, 3, .inl fun _ => nI 0)), (q2_z, .inl (Z 0, 12, .inl fun _ => nI 0))] := hD
  refine lv_aload_n hx hb dX1_init_19 rfl (lv_at hl 0 rfl) ?_
  refine lv_iconst (v := nI 0) hx hb dX1_init_20 (by decide) ?_
  refine va_put (D := D) (ci := 4) (v := .int (nI 0)) (ty := .int) (C := RX1) (T := TX1) (N := 7) hx hb hts i_X1 tyX1 tyX1_ok nmX1 hown M.2.1 hP hD hS 0 rfl rfl 2 (by decide) (hts _ w7_z) (fun _ h9 => h9) rfl (by decide +kernel) rfl rfl (Nat.le_of_ble_eq_true rfl) dX1_init_21 (fun H locs hP hD hS => ?_)
  have hP : va_P D vwCl [(h0, .inr (4, [.ref q1_z, .ref q2_z, .int (nI 0), .null, .null, .int (nI 0), .int (nI 0)])), (q1_z, .inl (Z 0, 3, .inl fun _ => nI 0)), (q2_z, .inl (Z 0, 12, .inl fun _ => nI 0))] H := hP
  have hD : va_D A [(h0, .inr (4, [.ref q1_z, .ref q2_z, .int (nI 0), .null, .null, .int (nI 0), .int (nI 0)])), (q1_z, .inl (Z 0, 3, .inl fun _ => nI 0)), (q2_z, .inl (Z 0, 12, .inl fun _ => nI 0))] := hD
  refine lv_aload_n hx hb dX1_init_24 rfl (lv_at hl 0 rfl) ?_
  refine lv_bipush (v := nI 6) hx hb dX1_init_25 (by decide) ?_
  refine q_newa (atype := .int) (ty := .int) (n := 6) M hP hD hS hA w3_z rfl 0 rfl (fun _ h9 => h9) (by decide) (by decide) (a0 := (6, .inl fun _ => nI 0)) (fun cA => by rw [vp_cell_i]; rfl) (Nat.le_of_ble_eq_true rfl) (Nat.le_of_ble_eq_true rfl) (Nat.le_of_ble_eq_true rfl) dX1_init_27 (fun q3_z H hP hD hS => ?_)
  have hP : va_P D vwCl [(h0, .inr (4, [.ref q1_z, .ref q2_z, .int (nI 0), .null, .null, .int (nI 0), .int (nI 0)])), (q1_z, .inl (Z 0, 3, .inl fun _ => nI 0)), (q2_z, .inl (Z 0, 12, .inl fun _ => nI 0)), (q3_z, .inl (Z 0, 6, .inl fun _ => nI 0))] H := hP
  have hD : va_D A [(h0, .inr (4, [.ref q1_z, .ref q2_z, .int (nI 0), .null, .null, .int (nI 0), .int (nI 0)])), (q1_z, .inl (Z 0, 3, .inl fun _ => nI 0)), (q2_z, .inl (Z 0, 12, .inl fun _ => nI 0)), (q3_z, .inl (Z 0, 6, .inl fun _ => nI 0))] := hD
  refine va_putF (D := D) (ci := 4) (v := .ref q3_z) (ty := (.array .int)) (C := RX1) (T := TX1) (N := 7) hx hb hts i_X1 tyX1 tyX1_ok nmX1 hown M.2.1 hP hD hS 0 rfl rfl 3 (by decide) (hts _ w8_z) (fun _ h9 => h9) rfl hin2 rfl (by decide +kernel) rfl rfl (Nat.le_of_ble_eq_true rfl) dX1_init_29 (fun H locs hP hD hS => ?_)
  have hP : va_P D vwCl [(h0, .inr (4, [.ref q1_z, .ref q2_z, .int (nI 0), .ref q3_z, .null, .int (nI 0), .int (nI 0)])), (q1_z, .inl (Z 0, 3, .inl fun _ => nI 0)), (q2_z, .inl (Z 0, 12, .inl fun _ => nI 0)), (q3_z, .inl (Z 0, 6, .inl fun _ => nI 0))] H := hP
  have hD : va_D A [(h0, .inr (4, [.ref q1_z, .ref q2_z, .int (nI 0), .ref q3_z, .null, .int (nI 0), .int (nI 0)])), (q1_z, .inl (Z 0, 3, .inl fun _ => nI 0)), (q2_z, .inl (Z 0, 12, .inl fun _ => nI 0)), (q3_z, .inl (Z 0, 6, .inl fun _ => nI 0))] := hD
  refine lv_aload_n hx hb dX1_init_32 rfl (lv_at hl 0 rfl) ?_
  refine lv_bipush (v := nI 6) hx hb dX1_init_33 (by decide) ?_
  refine q_newa (atype := .int) (ty := .int) (n := 6) M hP hD hS hA w3_z rfl 0 rfl (fun _ h9 => h9) (by decide) (by decide) (a0 := (6, .inl fun _ => nI 0)) (fun cA => by rw [vp_cell_i]; rfl) (Nat.le_of_ble_eq_true rfl) (Nat.le_of_ble_eq_true rfl) (Nat.le_of_ble_eq_true rfl) dX1_init_35 (fun q4_z H hP hD hS => ?_)
  have hP : va_P D vwCl [(h0, .inr (4, [.ref q1_z, .ref q2_z, .int (nI 0), .ref q3_z, .null, .int (nI 0), .int (nI 0)])), (q1_z, .inl (Z 0, 3, .inl fun _ => nI 0)), (q2_z, .inl (Z 0, 12, .inl fun _ => nI 0)), (q3_z, .inl (Z 0, 6, .inl fun _ => nI 0)), (q4_z, .inl (Z 0, 6, .inl fun _ => nI 0))] H := hP
  have hD : va_D A [(h0, .inr (4, [.ref q1_z, .ref q2_z, .int (nI 0), .ref q3_z, .null, .int (nI 0), .int (nI 0)])), (q1_z, .inl (Z 0, 3, .inl fun _ => nI 0)), (q2_z, .inl (Z 0, 12, .inl fun _ => nI 0)), (q3_z, .inl (Z 0, 6, .inl fun _ => nI 0)), (q4_z, .inl (Z 0, 6, .inl fun _ => nI 0))] := hD
  refine va_putF (D := D) (ci := 4) (v := .ref q4_z) (ty := (.array .int)) (C := RX1) (T := TX1) (N := 7) hx hb hts i_X1 tyX1 tyX1_ok nmX1 hown M.2.1 hP hD hS 0 rfl rfl 4 (by decide) (hts _ w9_z) (fun _ h9 => h9) rfl hin2 rfl (by decide +kernel) rfl rfl (Nat.le_of_ble_eq_true rfl) dX1_init_37 (fun H locs hP hD hS => ?_)
  have hP : va_P D vwCl [(h0, .inr (4, [.ref q1_z, .ref q2_z, .int (nI 0), .ref q3_z, .ref q4_z, .int (nI 0), .int (nI 0)])), (q1_z, .inl (Z 0, 3, .inl fun _ => nI 0)), (q2_z, .inl (Z 0, 12, .inl fun _ => nI 0)), (q3_z, .inl (Z 0, 6, .inl fun _ => nI 0)), (q4_z, .inl (Z 0, 6, .inl fun _ => nI 0))] H := hP
  have hD : va_D A [(h0, .inr (4, [.ref q1_z, .ref q2_z, .int (nI 0), .ref q3_z, .ref q4_z, .int (nI 0), .int (nI 0)])), (q1_z, .inl (Z 0, 3, .inl fun _ => nI 0)), (q2_z, .inl (Z 0, 12, .inl fun _ => nI 0)), (q3_z, .inl (Z 0, 6, .inl fun _ => nI 0)), (q4_z, .inl (Z 0, 6, .inl fun _ => nI 0))] := hD
  refine lv_aload_n hx hb dX1_init_40 rfl (lv_at hl 0 rfl) ?_
  refine lv_iconst (v := nI 0) hx hb dX1_init_41 (by decide) ?_
  refine va_put (D := D) (ci := 4) (v := .int (nI 0)) (ty := .int) (C := RX1) (T := TX1) (N := 7) hx hb hts i_X1 tyX1 tyX1_ok nmX1 hown M.2.1 hP hD hS 0 rfl rfl 5 (by decide) (hts _ w10_z) (fun _ h9 => h9) rfl (by decide +kernel) rfl rfl (Nat.le_of_ble_eq_true rfl) dX1_init_42 (fun H locs hP hD hS => ?_)
  have hP : va_P D vwCl [(h0, .inr (4, [.ref q1_z, .ref q2_z, .int (nI 0), .ref q3_z, .ref q4_z, .int (nI 0), .int (nI 0)])), (q1_z, .inl (Z 0, 3, .inl fun _ => nI 0)), (q2_z, .inl (Z 0, 12, .inl fun _ => nI 0)), (q3_z, .inl (Z 0, 6, .inl fun _ => nI 0)), (q4_z, .inl (Z 0, 6, .inl fun _ => nI 0))] H := hP
  have hD : va_D A [(h0, .inr (4, [.ref q1_z, .ref q2_z, .int (nI 0), .ref q3_z, .ref q4_z, .int (nI 0), .int (nI 0)])), (q1_z, .inl (Z 0, 3, .inl fun _ => nI 0)), (q2_z, .inl (Z 0, 12, .inl fun _ => nI 0)), (q3_z, .inl (Z 0, 6, .inl fun _ => nI 0)), (q4_z, .inl (Z 0, 6, .inl fun _ => nI 0))] := hD
  refine lv_aload_n hx hb dX1_init_45 rfl (lv_at hl 0 rfl) ?_
  refine lv_iconst (v := nI 0) hx hb dX1_init_46 (by decide) ?_
  refine va_put (D := D) (ci := 4) (v := .int (nI 0)) (ty := .int) (C := RX1) (T := TX1) (N := 7) hx hb hts i_X1 tyX1 tyX1_ok nmX1 hown M.2.1 hP hD hS 0 rfl rfl 6 (by decide) (hts _ w11_z) (fun _ h9 => h9) rfl (by decide +kernel) rfl rfl (Nat.le_of_ble_eq_true rfl) dX1_init_47 (fun H locs hP hD hS => ?_)
  have hP : va_P D vwCl [(h0, .inr (4, [.ref q1_z, .ref q2_z, .int (nI 0), .ref q3_z, .ref q4_z, .int (nI 0), .int (nI 0)])), (q1_z, .inl (Z 0, 3, .inl fun _ => nI 0)), (q2_z, .inl (Z 0, 12, .inl fun _ => nI 0)), (q3_z, .inl (Z 0, 6, .inl fun _ => nI 0)), (q4_z, .inl (Z 0, 6, .inl fun _ => nI 0))] H := hP
  have hD : va_D A [(h0, .inr (4, [.ref q1_z, .ref q2_z, .int (nI 0), .ref q3_z, .ref q4_z, .int (nI 0), .int (nI 0)])), (q1_z, .inl (Z 0, 3, .inl fun _ => nI 0)), (q2_z, .inl (Z 0, 12, .inl fun _ => nI 0)), (q3_z, .inl (Z 0, 6, .inl fun _ => nI 0)), (q4_z, .inl (Z 0, 6, .inl fun _ => nI 0))] := hD
  refine W.widen (k := 4) (n := 27) (Nat.le_of_ble_eq_true rfl) (Nat.le_of_ble_eq_true rfl) ?_
  subst hAe
  exact W.vret hx hb hr (fun t ht hW9 => ⟨⟨_, rfl, ⟨q1_z, q2_z, q3_z, q4_z, rfl⟩, by rw [ht]; exact hP, hD⟩, hS.F ht⟩) hS.2.2 dX1_init_50
set_option maxHeartbeats 4000000 in
set_option maxRecDepth 100000 in
theorem c_Jxa1e45_init_da8c8 (l : Launch) (D : va_G) (Z : Nat → Nat) (N0 h0 sz : Nat) : Met l yJxa1e45_init_da8c8 wsJxa1e45_init_da8c8 ({ frames := 1, cells := 0, slots := 0, locals := 100 } : Room) (PR D Z N0 sz [(h0, .inr (2, [.int (nI 0), .null, .int (nI 0)]))] [.ref h0]) (QRw D [(h0, .inr (2, [.int (nI 0), .null, .int (nI 0)]))] sz (fun ws => ws = [(h0, .inr (2, [.int (nI 0), .null, .int (nI 0)]))])) 0 0 (va_A [(h0, .inr (2, [.int (nI 0), .null, .int (nI 0)]))] sz) := by
  refine Met.ofW (cc := cJxa1e45_init_da8c8) (maxL := 1) (ret := none) (by decide) rfl ?_
  intro pP eP sP mP args below meth cP s₁ B hmlP hvP
  obtain ⟨rfl, hsz, hP, hD0, hC⟩ := hvP
  have hx := B.exec
  have hb := B.bytes
  have hr := B.returns
  have hts := atoms_spec (ws := wsJxa1e45_init_da8c8) B.pre
  have hown : sP.vm.findClass RJxa1e45 = some mP.cls := findClass_of_methodNamed B.named
  have hlocks := B.notSynchronized
  have hin2 : meth.name = "<init>" := (name_of_methodNamed B.named B.method).1
  have w0_z : Cond.methodLink RJxa1e45 1 objectInit ∈ wsJxa1e45_init_da8c8 := by decide +kernel
  have w1_z : Cond.instanceMethod objectInit ∈ wsJxa1e45_init_da8c8 := by decide +kernel
  have w2_z : Cond.code objectInit ⟨#[0xb1]⟩ 1 none ∈ wsJxa1e45_init_da8c8 := by decide +kernel
  subst hsz
  have hD := hD0.self (sz := sP.heap.size)
  have hNA : ∀ q, va_A [(h0, .inr (2, [.int (nI 0), .null, .int (nI 0)]))] sP.heap.size q → AA N0 q := fun q h => raw_N hD0 hC.2.1 h
  generalize hAe : va_A [(h0, .inr (2, [.int (nI 0), .null, .int (nI 0)]))] sP.heap.size = A at hD hNA ⊢
  have hA : ∀ q : Nat, sP.heap.size ≤ q → A q := fun q h => by rw [← hAe]; exact Or.inr h
  have M : Mx pP mP cP cJxa1e45_init_da8c8 1 sP ([.ref h0] : List Value).toArray wsJxa1e45_init_da8c8 RJxa1e45 D Z N0 := ⟨⟨hx, hb, hmlP, hown, hts⟩, hC⟩
  have hS : va_S A sP.heap sP.heap [] := va_S.rf
  have hP : va_P D vwCl [(h0, .inr (2, [.int (nI 0), .null, .int (nI 0)]))] sP.heap := hP
  have hl := lv_entry ([.ref h0]) (n := 1) (Nat.le_of_ble_eq_true rfl)
  rw [lg_entry_eq]
  generalize (lg_sl ([.ref h0]) ++ List.replicate (1 - (lg_sl ([.ref h0])).length) Slot.unset).toArray = ls at hl ⊢
  have hl : lv_has ls 1 [(0, .ref h0)] := hl
  refine lv_aload_n hx hb dJxa1e45_init_da8c8_0 rfl (lv_at hl 0 rfl) ?_
  refine W.objInit hx hb hown (hts _ w0_z) (hts _ w1_z) (hts _ w2_z) rfl (by rw [hmlP]; exact hl.1) rfl dJxa1e45_init_da8c8_1 (Nat.le_of_ble_eq_true rfl) (Nat.le_of_ble_eq_true rfl) ?_
  refine W.eq (g2 := F0 mP 4 ls []) rfl ?_
  subst hAe
  exact W.vret hx hb hr (fun t ht hW9 => ⟨⟨_, rfl, rfl, by rw [ht]; exact hP, hD⟩, hS.F ht⟩) hS.2.2 dJxa1e45_init_da8c8_4
set_option maxHeartbeats 4000000 in
set_option maxRecDepth 100000 in
theorem c_Jxc12de_init_da8c8 (l : Launch) (D : va_G) (Z : Nat → Nat) (N0 h0 sz : Nat) : Met l yJxc12de_init_da8c8 wsJxc12de_init_da8c8 ({ frames := 2, cells := 0, slots := 0, locals := 140 } : Room) (PR D Z N0 sz [(h0, .inr (2, [.int (nI 0), .null, .int (nI 0)]))] [.ref h0]) (QRw D [(h0, .inr (2, [.int (nI 0), .null, .int (nI 0)]))] sz (fun ws => ws = [(h0, .inr (2, [.int (nI 0), .null, .int (nI 0)]))])) 0 0 (va_A [(h0, .inr (2, [.int (nI 0), .null, .int (nI 0)]))] sz) := by
  refine Met.ofW (cc := cJxc12de_init_da8c8) (maxL := 1) (ret := none) (by decide) rfl ?_
  intro pP eP sP mP args below meth cP s₁ B hmlP hvP
  obtain ⟨rfl, hsz, hP, hD0, hC⟩ := hvP
  have hx := B.exec
  have hb := B.bytes
  have hr := B.returns
  have hts := atoms_spec (ws := wsJxc12de_init_da8c8) B.pre
  have hown : sP.vm.findClass RJxc12de = some mP.cls := findClass_of_methodNamed B.named
  have hlocks := B.notSynchronized
  have hin2 : meth.name = "<init>" := (name_of_methodNamed B.named B.method).1
  have w0_z : Cond.initialized RJxa1e45 ∈ wsJxc12de_init_da8c8 := by decide +kernel
  have w1_z : Cond.methodLink RJxc12de 1 yJxa1e45_init_da8c8 ∈ wsJxc12de_init_da8c8 := by decide +kernel
  have w2_z : Cond.instanceMethod yJxa1e45_init_da8c8 ∈ wsJxc12de_init_da8c8 := by decide +kernel
  have w3_z : Cond.fieldLink RJxc12de 7 "java/util/AbstractList" "modCount" "I" ∈ wsJxc12de_init_da8c8 := by decide +kernel
  have i_Jx4a65c : ∀ w ∈ wsJx4a65c0, w ∈ wsJxc12de_init_da8c8 := (fun _ h => List.mem_cons_of_mem _ (List.mem_append_right _ h))
  subst hsz
  have hD := hD0.self (sz := sP.heap.size)
  have hNA : ∀ q, va_A [(h0, .inr (2, [.int (nI 0), .null, .int (nI 0)]))] sP.heap.size q → AA N0 q := fun q h => raw_N hD0 hC.2.1 h
  generalize hAe : va_A [(h0, .inr (2, [.int (nI 0), .null, .int (nI 0)]))] sP.heap.size = A at hD hNA ⊢
  have hA : ∀ q : Nat, sP.heap.size ≤ q → A q := fun q h => by rw [← hAe]; exact Or.inr h
  have M : Mx pP mP cP cJxc12de_init_da8c8 1 sP ([.ref h0] : List Value).toArray wsJxc12de_init_da8c8 RJxc12de D Z N0 := ⟨⟨hx, hb, hmlP, hown, hts⟩, hC⟩
  have hS : va_S A sP.heap sP.heap [] := va_S.rf
  have hP : va_P D vwCl [(h0, .inr (2, [.int (nI 0), .null, .int (nI 0)]))] sP.heap := hP
  have hl := lv_entry ([.ref h0]) (n := 1) (Nat.le_of_ble_eq_true rfl)
  rw [lg_entry_eq]
  generalize (lg_sl ([.ref h0]) ++ List.replicate (1 - (lg_sl ([.ref h0])).length) Slot.unset).toArray = ls at hl ⊢
  have hl : lv_has ls 1 [(0, .ref h0)] := hl
  refine lv_aload_n hx hb dJxc12de_init_da8c8_0 rfl (lv_at hl 0 rfl) ?_
  have hPc := hP.sub (ws' := [(h0, .inr (2, [.int (nI 0), .null, .int (nI 0)]))]) [0] rfl
  have hDc := hD.sub (ws' := [(h0, .inr (2, [.int (nI 0), .null, .int (nI 0)]))]) [0] (by decide) rfl
  have hFc := va_free (wc := [(h0, .inr (2, [.int (nI 0), .null, .int (nI 0)]))]) hD hS hA [0] rfl
  refine va_callv (va_runI (As := []) (rest := []) M.1 (c_Jxa1e45_init_da8c8 l D Z N0 h0 sP.heap.size) (cwI 0 hts gJxc12de_init_da8c8_Jxa1e45_init_da8c8 rfl rfl rfl (hts _ w0_z) (hts _ w1_z) (hts _ w2_z) rfl (by decide +kernel) ⟨(Nat.le_of_ble_eq_true rfl), (Nat.le_of_ble_eq_true rfl)⟩) ⟨PR.blind, fun U hU hW9 => ⟨rfl, by rw [hU], by rw [hU]; exact hPc, va_D_w hDc hNA, M.2.mv (va_S_w hS hNA) hU hW9⟩⟩ rfl rfl hl.1 rfl (lv_room (Nat.le_of_ble_eq_true rfl)) dJxc12de_init_da8c8_1 ⟨(Nat.le_of_ble_eq_true rfl), (Nat.le_of_ble_eq_true rfl)⟩) hS (fun q9 _ h => hFc q9 h) hFc (fun ws1 t H9 locs ht hvm hp hB hz1 hk1 hS => ?_)
  obtain rfl := hp
  obtain ⟨hP1, hD1⟩ := hB
  rw [ht] at hP1
  obtain ⟨hP, hD⟩ := va_join (wr := []) (w1 := [(h0, .inr (2, [.int (nI 0), .null, .int (nI 0)]))]) hP hD [0] [] rfl rfl (by decide) (by decide) hk1 hFc hP1 hD1
  generalize H9 = H at hP hS ⊢
  have hP : va_P D vwCl [(h0, .inr (2, [.int (nI 0), .null, .int (nI 0)]))] H := hP
  have hD : va_D A [(h0, .inr (2, [.int (nI 0), .null, .int (nI 0)]))] := hD
  refine lv_aload_n hx hb dJxc12de_init_da8c8_4 rfl (lv_at hl 0 rfl) ?_
  refine lv_iconst (v := nI 0) hx hb dJxc12de_init_da8c8_5 (by decide) ?_
  refine va_put (D := D) (ci := 2) (v := .int (nI 0)) (ty := .int) (C := RJx4a65c) (T := TJx4a65c) (N := 3) hx hb hts i_Jx4a65c tyJx4a65c tyJx4a65c_ok nmJx4a65c hown M.2.1 hP hD hS 0 rfl rfl 0 (by decide) (hts _ w3_z) (fun _ h9 => h9) rfl (by decide +kernel) rfl rfl (Nat.le_of_ble_eq_true rfl) dJxc12de_init_da8c8_6 (fun H locs hP hD hS => ?_)
  have hP : va_P D vwCl [(h0, .inr (2, [.int (nI 0), .null, .int (nI 0)]))] H := hP
  have hD : va_D A [(h0, .inr (2, [.int (nI 0), .null, .int (nI 0)]))] := hD
  subst hAe
  exact W.vret hx hb hr (fun t ht hW9 => ⟨⟨_, rfl, rfl, by rw [ht]; exact hP, hD⟩, hS.F ht⟩) hS.2.2 dJxc12de_init_da8c8_9
set_option maxHeartbeats 4000000 in
set_option maxRecDepth 100000 in
theorem c_Jx4a65c_init_da8c8 (l : Launch) (D : va_G) (Z : Nat → Nat) (N0 h0 sz : Nat) : Met l yJx4a65c_init_da8c8 wsJx4a65c_init_da8c8 ({ frames := 3, cells := 0, slots := 0, locals := 180 } : Room) (PR D Z N0 sz [(h0, .inr (2, [.int (nI 0), .null, .int (nI 0)]))] [.ref h0]) (QRw D [(h0, .inr (2, [.int (nI 0), .null, .int (nI 0)]))] sz (fun ws => ws = [(h0, .inr (2, [.int (nI 0), .ref (Z 6), .int (nI 0)]))])) 0 0 (va_A [(h0, .inr (2, [.int (nI 0), .null, .int (nI 0)]))] sz) := by
  refine Met.ofW (cc := cJx4a65c_init_da8c8) (maxL := 1) (ret := none) (by decide) rfl ?_
  intro pP eP sP mP args below meth cP s₁ B hmlP hvP
  obtain ⟨rfl, hsz, hP, hD0, hC⟩ := hvP
  have hx := B.exec
  have hb := B.bytes
  have hr := B.returns
  have hts := atoms_spec (ws := wsJx4a65c_init_da8c8) B.pre
  have hown : sP.vm.findClass RJx4a65c = some mP.cls := findClass_of_methodNamed B.named
  have hlocks := B.notSynchronized
  have hin2 : meth.name = "<init>" := (name_of_methodNamed B.named B.method).1
  have w0_z : Cond.initialized RJxc12de ∈ wsJx4a65c_init_da8c8 := by decide +kernel
  have w1_z : Cond.methodLink RJx4a65c 1 yJxc12de_init_da8c8 ∈ wsJx4a65c_init_da8c8 := by decide +kernel
  have w2_z : Cond.instanceMethod yJxc12de_init_da8c8 ∈ wsJx4a65c_init_da8c8 := by decide +kernel
  have w3_z : Cond.fieldLink RJx4a65c 39 "java/util/ArrayList" "DEFAULTCAPACITY_EMPTY_ELEMENTDATA" "[Ljava/lang/Object;" ∈ wsJx4a65c_init_da8c8 := by decide +kernel
  have w4_z : Cond.fieldLink RJx4a65c 9 "java/util/ArrayList" "elementData" "[Ljava/lang/Object;" ∈ wsJx4a65c_init_da8c8 := by decide +kernel
  have i_Jx4a65c : ∀ w ∈ wsJx4a65c0, w ∈ wsJx4a65c_init_da8c8 := (fun _ h => List.mem_cons_of_mem _ (List.mem_append_right _ h))
  subst hsz
  have hD := hD0.self (sz := sP.heap.size)
  have hNA : ∀ q, va_A [(h0, .inr (2, [.int (nI 0), .null, .int (nI 0)]))] sP.heap.size q → AA N0 q := fun q h => raw_N hD0 hC.2.1 h
  generalize hAe : va_A [(h0, .inr (2, [.int (nI 0), .null, .int (nI 0)]))] sP.heap.size = A at hD hNA ⊢
  have hA : ∀ q : Nat, sP.heap.size ≤ q → A q := fun q h => by rw [← hAe]; exact Or.inr h
  have M : Mx pP mP cP cJx4a65c_init_da8c8 1 sP ([.ref h0] : List Value).toArray wsJx4a65c_init_da8c8 RJx4a65c D Z N0 := ⟨⟨hx, hb, hmlP, hown, hts⟩, hC⟩
  have hS : va_S A sP.heap sP.heap [] := va_S.rf
  have hP : va_P D vwCl [(h0, .inr (2, [.int (nI 0), .null, .int (nI 0)]))] sP.heap := hP
  have hl := lv_entry ([.ref h0]) (n := 1) (Nat.le_of_ble_eq_true rfl)
  rw [lg_entry_eq]
  generalize (lg_sl ([.ref h0]) ++ List.replicate (1 - (lg_sl ([.ref h0])).length) Slot.unset).toArray = ls at hl ⊢
  have hl : lv_has ls 1 [(0, .ref h0)] := hl
  refine lv_aload_n hx hb dJx4a65c_init_da8c8_0 rfl (lv_at hl 0 rfl) ?_
  have hPc := hP.sub (ws' := [(h0, .inr (2, [.int (nI 0), .null, .int (nI 0)]))]) [0] rfl
  have hDc := hD.sub (ws' := [(h0, .inr (2, [.int (nI 0), .null, .int (nI 0)]))]) [0] (by decide) rfl
  have hFc := va_free (wc := [(h0, .inr (2, [.int (nI 0), .null, .int (nI 0)]))]) hD hS hA [0] rfl
  refine va_callv (va_runI (As := []) (rest := []) M.1 (c_Jxc12de_init_da8c8 l D Z N0 h0 sP.heap.size) (cwI 0 hts gJx4a65c_init_da8c8_Jxc12de_init_da8c8 rfl rfl rfl (hts _ w0_z) (hts _ w1_z) (hts _ w2_z) rfl (by decide +kernel) ⟨(Nat.le_of_ble_eq_true rfl), (Nat.le_of_ble_eq_true rfl)⟩) ⟨PR.blind, fun U hU hW9 => ⟨rfl, by rw [hU], by rw [hU]; exact hPc, va_D_w hDc hNA, M.2.mv (va_S_w hS hNA) hU hW9⟩⟩ rfl rfl hl.1 rfl (lv_room (Nat.le_of_ble_eq_true rfl)) dJx4a65c_init_da8c8_1 ⟨(Nat.le_of_ble_eq_true rfl), (Nat.le_of_ble_eq_true rfl)⟩) hS (fun q9 _ h => hFc q9 h) hFc (fun ws1 t H9 locs ht hvm hp hB hz1 hk1 hS => ?_)
  obtain rfl := hp
  obtain ⟨hP1, hD1⟩ := hB
  rw [ht] at hP1
  obtain ⟨hP, hD⟩ := va_join (wr := []) (w1 := [(h0, .inr (2, [.int (nI 0), .null, .int (nI 0)]))]) hP hD [0] [] rfl rfl (by decide) (by decide) hk1 hFc hP1 hD1
  generalize H9 = H at hP hS ⊢
  have hP : va_P D vwCl [(h0, .inr (2, [.int (nI 0), .null, .int (nI 0)]))] H := hP
  have hD : va_D A [(h0, .inr (2, [.int (nI 0), .null, .int (nI 0)]))] := hD
  refine lv_aload_n hx hb dJx4a65c_init_da8c8_4 rfl (lv_at hl 0 rfl) ?_
  refine va_gets hx hb hC.2.2.z (va_S_w hS hNA) hown (hts _ w3_z) (fun _ h9 => h9) dJx4a65c_init_da8c8_5 ?_
  refine va_put (D := D) (ci := 2) (v := .ref (Z 6)) (ty := (.array (.object "java/lang/Object"))) (C := RJx4a65c) (T := TJx4a65c) (N := 3) hx hb hts i_Jx4a65c tyJx4a65c tyJx4a65c_ok nmJx4a65c hown M.2.1 hP hD hS 0 rfl rfl 1 (by decide) (hts _ w4_z) (fun _ h9 => h9) rfl (by decide +kernel) rfl rfl (Nat.le_of_ble_eq_true rfl) dJx4a65c_init_da8c8_8 (fun H locs hP hD hS => ?_)
  have hP : va_P D vwCl [(h0, .inr (2, [.int (nI 0), .ref (Z 6), .int (nI 0)]))] H := hP
  have hD : va_D A [(h0, .inr (2, [.int (nI 0), .ref (Z 6), .int (nI 0)]))] := hD
  subst hAe
  exact W.vret hx hb hr (fun t ht hW9 => ⟨⟨_, rfl, rfl, by rw [ht]; exact hP, hD⟩, hS.F ht⟩) hS.2.2 dJx4a65c_init_da8c8_11
