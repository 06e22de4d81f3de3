/-! MAKING, row by row: new objects raw beside the world, stores of references, contracts whose addresses move. -/
theorem lv_of2 {g g' : T3} (h1 : ∀ b, g' 3 b 1 = g 3 b 1) (h3 : ∀ b, g' 3 b 3 = g 3 b 3) (h11 : ∀ b q, g' 11 b q = g 11 b q) {a b : Nat} (h : lv g' a b) : lv g a b := by
  unfold lv at h ⊢
  split at h <;> (try simp only [h1, h3, h11] at h) <;> exact h
theorem EV.t {N0 : Nat} {Z : Nat → Nat} {U : State} (h : EV N0 Z U) : va_T (.object "java/lang/Object") (Z 6) 0 (fun _ => .null) (AA N0) U U.heap := h.2.2.2.2.2.2.2.1
theorem EV.cast {N0 : Nat} {Z : Nat → Nat} {U : State} (h : EV N0 Z U) {q : String × String} (hq : q ∈ casL) : va_Nw (.castable q.1 q.2) U := h.2.2.1 q hq
theorem Wd.st2 {D : va_G} {Z : Nat → Nat} {N0 : Nat} {g : T3} {ad : T2} {H H1 : Heap} (hW : Wd D Z N0 g ad H) {k i j v : Nat} (hl : lv g k i) (h3 : ∀ b, up g k i j v 3 b 3 = g 3 b 3) (h1 : ∀ b, up g k i j v 3 b 1 = g 3 b 1) (h11 : ∀ b q, up g k i j v 11 b q = g 11 b q) (ha : va_at D vwCl (ad k i, ct Z ad k i (upr (g k i) j v)) H1) (oq : ∀ q : Nat, q ≠ ad k i → H1[q]? = H[q]?) (ho : bnd k j = 0 ∨ v ≤ bnd k j) (hi : ivv (up g k i j v)) : Wd D Z N0 (up g k i j v) ad H1 := by
  obtain ⟨w1, w2, w3, w4⟩ := hW
  have e : ∀ a b, lv (up g k i j v) a b → lv g a b := fun a b h => lv_of2 h1 h3 h11 h
  refine ⟨fun a b h => ?_, fun a b a' b' x y z => w2 a b a' b' (e _ _ x) (e _ _ y) z, w3.up ho, hi⟩
  obtain ⟨q1, q2⟩ := w1 a b (e _ _ h)
  by_cases c : a = k ∧ b = i
  · obtain ⟨rfl, rfl⟩ := c
    rw [up_s]
    exact ⟨ha, q2⟩
  · rw [up_n _ _ _ _ _ c]
    exact ⟨q1.kept (oq _ (fun z => c (w2 a b k i (e _ _ h) hl z))), q2⟩
abbrev QA (D : va_G) (Z : Nat → Nat) (N0 : Nat) (post : Int32 → T3 → T2 → Prop) : Array Value → State → Outcome → State → Prop := va_Qi (S := T3 × T2) (fun r u => post r u.1 u.2) (fun u t => Wd D Z N0 u.1 u.2 t.heap) (AA N0)
abbrev QAV (D : va_G) (Z : Nat → Nat) (N0 : Nat) (post : T3 → T2 → Prop) : Array Value → State → Outcome → State → Prop := va_Qv (S := T3 × T2) (fun u => post u.1 u.2) (fun u t => Wd D Z N0 u.1 u.2 t.heap) (AA N0)
abbrev QAR (D : va_G) (Z : Nat → Nat) (N0 : Nat) (post : Nat → T3 → T2 → Prop) : Array Value → State → Outcome → State → Prop := va_Qr (S := T3 × T2) (fun _ => True) (fun u a t => post a u.1 u.2 ∧ Wd D Z N0 u.1 u.2 t.heap) (AA N0)
/-- an image made, and not yet in a stage -/
def PI (D : va_G) (Z : Nat → Nat) (N0 : Nat) (g : T3) (ad : T2) (q a b d : Nat) (av : List Value) : Array Value → State → Prop := va_Pc av (fun U => Wd D Z N0 g ad U.heap ∧ Cx D Z N0 U ∧ va_at D vwCl (q, .inr (3, [.int (nI a), .int (nI b), .int (nI d), .int (nI 0)])) U.heap ∧ RA g ad N0 q)
theorem PI.blind {D : va_G} {Z : Nat → Nat} {N0 : Nat} {g : T3} {ad : T2} {q a b d : Nat} {av : List Value} : FrameBlind (PI D Z N0 g ad q a b d av) := fun x U g9 mk h => ⟨h.1, h.2.1, h.2.2.1.call g9 mk x, h.2.2.2.1, h.2.2.2.2⟩
section MADE
variable {p : Program} {l : Launch} {e : Env} {R : Room} {s : State} {m : MethodId} {args : Array Value} {below : List Frame} {meth : Method} {c : Code} {H : Heap} {locs : List Loc} {cells slots : Nat} {Q : State → Prop}
variable {cc bytes : ByteArray} {nL maxL index n mc ms : Nat} {Ts ws : List Cond} {own C : String} {y : MethodName} {ret : Option FieldType} {rm : Room} {D : va_G} {Z : Nat → Nat} {N0 : Nat} {g : T3} {ad : T2} {pc : Nat} {ls : Array Slot} {rest st0 As : List Value} {b : Nat}
theorem k_cAi {a : Array Value} {post : Int32 → T3 → T2 → Prop} (hr : va_Run p l e R s m args below meth c H locs cells slots mc ms (F0 m pc ls st0) rest (QA D Z N0 post a) (AA N0)) (hS : va_S (AA N0) s.heap H locs)
    (kk : ∀ (r : Int32) (g1 : T3) (ad1 : T2) (H1 : Heap) (locs1 : List Loc), post r g1 ad1 → Wd D Z N0 g1 ad1 H1 → va_S (AA N0) s.heap H1 locs1 → W p l e R s m args below meth c H1 locs1 (cells + mc) (slots + ms) Q (F0 m (pc + 3) ls (.int r :: rest))) : W p l e R s m args below meth c H locs cells slots Q (F0 m pc ls st0) :=
  va_calli hr hS (fun _ _ h => h) (fun _ h => h) (fun r u t H1 locs1 ht _ hp hB _ _ hS1 => kk r u.1 u.2 H1 locs1 hp (by rw [← ht]; exact hB) hS1)
theorem k_cAv {a : Array Value} {post : T3 → T2 → Prop} (hr : va_Run p l e R s m args below meth c H locs cells slots mc ms (F0 m pc ls st0) rest (QAV D Z N0 post a) (AA N0)) (hS : va_S (AA N0) s.heap H locs)
    (kk : ∀ (g1 : T3) (ad1 : T2) (H1 : Heap) (locs1 : List Loc), post g1 ad1 → Wd D Z N0 g1 ad1 H1 → va_S (AA N0) s.heap H1 locs1 → W p l e R s m args below meth c H1 locs1 (cells + mc) (slots + ms) Q (F0 m (pc + 3) ls rest)) : W p l e R s m args below meth c H locs cells slots Q (F0 m pc ls st0) :=
  va_callv hr hS (fun _ _ h => h) (fun _ h => h) (fun u t H1 locs1 ht _ hp hB _ _ hS1 => kk u.1 u.2 H1 locs1 hp (by rw [← ht]; exact hB) hS1)
theorem k_cAr {a : Array Value} {post : Nat → T3 → T2 → Prop} (hr : va_Run p l e R s m args below meth c H locs cells slots mc ms (F0 m pc ls st0) rest (QAR D Z N0 post a) (AA N0)) (hS : va_S (AA N0) s.heap H locs)
    (kk : ∀ (r : Nat) (g1 : T3) (ad1 : T2) (H1 : Heap) (locs1 : List Loc), post r g1 ad1 → Wd D Z N0 g1 ad1 H1 → va_S (AA N0) s.heap H1 locs1 → W p l e R s m args below meth c H1 locs1 (cells + mc) (slots + ms) Q (F0 m (pc + 3) ls (.ref r :: rest))) : W p l e R s m args below meth c H locs cells slots Q (F0 m pc ls st0) :=
  va_callr hr hS (fun _ _ h => h) (fun _ h => h) (fun u r t H1 locs1 ht _ _ hB _ _ hS1 => kk r u.1 u.2 H1 locs1 hB.1 (by rw [← ht]; exact hB.2) hS1)
theorem k_xAi {a : Array Value} {post : Int32 → T3 → T2 → Prop} {px : String → Prop} (hr : vx_Run p l e R s m args below meth c H locs cells slots mc ms (F0 m pc ls st0) rest (QA D Z N0 post a) (QX D Z N0 g ad px) (AA N0)) (hS : va_S (AA N0) s.heap H locs)
    (kx : ∀ (E : String) (ce : Cell) (q9 : Addr) (H1 : Heap) (locs1 : List Loc), px E → Wd D Z N0 g ad H1 → va_S (AA N0) s.heap H1 locs1 → (H1[q9]? = some ce ∧ ce.vm = .none ∧ s.vm.findClass E = some ce.cls) → vx_W p l e R s m args below meth c H1 locs1 (cells + mc) (slots + ms) Q (F0 m pc ls rest) q9)
    (kk : ∀ (r : Int32) (g1 : T3) (ad1 : T2) (H1 : Heap) (locs1 : List Loc), post r g1 ad1 → Wd D Z N0 g1 ad1 H1 → va_S (AA N0) s.heap H1 locs1 → W p l e R s m args below meth c H1 locs1 (cells + mc) (slots + ms) Q (F0 m (pc + 3) ls (.int r :: rest))) : W p l e R s m args below meth c H locs cells slots Q (F0 m pc ls st0) :=
  vx_calli hr hS (fun _ _ h => h) (fun _ h => h) (fun _ _ h => h) (fun E ce q9 _ t H1 locs1 ht _ _ hB _ _ hS1 a1 a2 a3 => kx E ce q9 H1 locs1 hB.1 (by rw [← ht]; exact hB.2) hS1 ⟨a1, a2, a3⟩) (fun r u t H1 locs1 ht _ hp hB _ _ hS1 => kk r u.1 u.2 H1 locs1 hp (by rw [← ht]; exact hB) hS1)
theorem r_new (M : Mx p m c cc nL s args Ts own D Z N0) (hW : Wd D Z N0 g ad H) (hS : va_S (AA N0) s.heap H locs) {T : u_T} {N ci : Nat} (hin : ∀ w ∈ u_ws C T N, w ∈ Ts) (ty : Nat → FieldType) (hty : ∀ k, k < N → parseFieldDescriptor (T k).2.2.1 = some (ty k)) (hcl : Cond.classLink own index C ∈ Ts) (hinst : Cond.instantiable C N ∈ Ts) (hini : Cond.initialized C ∈ Ts) (hc : vwCl[ci]? = some (C, T, N)) {fs : List Value} (hfs : ∀ j, j < N → defaultValue (ty j) = vp_V fs j) (hcells : cells + 1 ≤ R.cells) (hslots : slots + N ≤ R.slots) (hdg : decode cc pc = .ok (.new index, 3))
    (kk : ∀ (q : Nat) (H1 : Heap), va_at D vwCl (q, .inr (ci, fs)) H1 → RA g ad N0 q → Wd D Z N0 g ad H1 → va_S (AA N0) s.heap H1 locs → W p l e R s m args below meth c H1 locs (cells + 1) (slots + N) Q (F0 m (pc + 3) ls (.ref q :: rest))) : W p l e R s m args below meth c H locs cells slots Q (F0 m pc ls rest) := by
  obtain ⟨⟨hx, hb, hml, hown, hts⟩, hK, hN, -⟩ := M
  have hKn := hK.1 ci _ hc
  refine W.newcK hx hb hown (hts _ hcl) (hts _ hinst) (hts _ hini) rfl hdg hcells hslots hKn.2.1 rfl fun H1 kC hkC e1 z1 o1 => ?_
  exact kk H.size H1 ⟨_, hc, (u_born ty hts hin hKn hkC e1 hty).to hfs⟩ ⟨Nat.le_trans hN hS.1, fun k i h => Nat.ne_of_lt (hW.1 k i h).1.lt⟩ (hW.kept o1) ⟨Nat.le_trans hS.1 (by omega), fun x h1 h2 => (o1 x (Nat.lt_of_lt_of_le h1 hS.1)).trans (hS.2.1 x h1 h2), hS.2.2⟩
theorem r_newq (M : Mx p m c cc nL s args Ts own D Z N0) (hW : Wd D Z N0 g ad H) (hS : va_S (AA N0) s.heap H locs) (hin : Cond.classLink own index C ∈ Ts) (hao : va_AO C s) (t : Nat) (ht : (tyL Z)[t]? = some (Z t, .object C)) {n : Nat} (hn0 : ¬ nI n < 0) (hn : (nI n).toNatClampNeg = n) (hbytes : n * 4 ≤ 536870912) (hcells : cells + 1 ≤ R.cells) (hslots : slots + n ≤ R.slots) (hdg : decode cc pc = .ok (.anewarray index, 3))
    (kk : ∀ (q : Nat) (H1 : Heap), va_at D vwCl (q, .inl (Z t, n, .inr (.inr (.inr (.inr (fun _ => none)))))) H1 → RA g ad N0 q → Wd D Z N0 g ad H1 → va_S (AA N0) s.heap H1 locs → W p l e R s m args below meth c H1 locs (cells + 1) (slots + n) Q (F0 m (pc + 3) ls (.ref q :: rest))) : W p l e R s m args below meth c H locs cells slots Q (F0 m pc ls (.int (nI n) :: rest)) := by
  obtain ⟨⟨hx, hb, hml, hown, hts⟩, hK, hN, -⟩ := M
  refine W.anew hx hb hown (hts _ hin) (va_AO.use hao) rfl hdg rfl hn0 (by rw [hn]; exact hbytes) hcells (by rw [hn]; exact hslots) fun cA kA comp f1 f2 f3 f4 => ?_
  generalize hH1 : H.push ({ cls := cA, slots := Array.replicate (nI n).toNatClampNeg .null, vm := .none } : Cell) = H1
  have z1 : H1.size = H.size + 1 := by rw [← hH1, Array.size_push]
  have e1 : H1[H.size]? = some (arrV cA n (fun _ => .null)) := by rw [← hH1, Array.getElem?_push_size, ← arrV_new, hn]
  have o1 : ∀ q : Nat, q < H.size → H1[q]? = H[q]? := fun q hq => by rw [← hH1, Array.getElem?_push, if_neg (Nat.ne_of_lt hq)]
  obtain ⟨_, _, _, _, _, e2⟩ := (hK.2 t _ ht).2
  obtain rfl : cA = Z t := Option.some.inj (f1.symm.trans e2)
  rw [hn]
  refine kk H.size H1 ?_ ⟨Nat.le_trans hN hS.1, fun k i h => Nat.ne_of_lt (hW.1 k i h).1.lt⟩ (hW.kept o1) ⟨Nat.le_trans hS.1 (by omega), fun x h1 h2 => (o1 x (Nat.lt_of_lt_of_le h1 hS.1)).trans (hS.2.1 x h1 h2), hS.2.2⟩
  show H1[H.size]? = some (vp_cell _ _)
  rw [vp_cell_q]
  exact e1
/-- a constructor called on what was made, beside the world -/
theorem k_mk {post : va_W → Prop} {c0 : va_E} {q0 : Nat} (M : Mx p m c cc nL s args Ts own D Z N0) (hW : Wd D Z N0 g ad H) (hS : va_S (AA N0) s.heap H locs) (hat : va_at D vwCl (q0, c0) H) (hR : RA g ad N0 q0)
    (hM : Met l y ws rm (PR D Z N0 H.size [(q0, c0)] (.ref q0 :: As)) (QRw D [(q0, c0)] H.size post) mc ms (va_A [(q0, c0)] H.size)) (cw : CallB R s args own index y bytes maxL none ws rm mc ms n ∧ y.name = "<init>" ∧ (Cond.instanceMethod y).before args s = true)
    (hn : As.length = n) (hsz : ls.size = nL) (hst : st0 = As.reverse ++ .ref q0 :: rest) (hro : (rest.map fun v => v.category).sum ≤ 8) (hdg : decode cc pc = .ok (.invokespecial index, 3)) (hf : cells + mc ≤ R.cells ∧ slots + ms ≤ R.slots)
    (kk : ∀ (ws1 : va_W) (H1 : Heap) (locs1 : List Loc), post ws1 → va_P D vwCl ws1 H1 → va_D (RA g ad N0) ws1 → Wd D Z N0 g ad H1 → va_S (AA N0) s.heap H1 locs1 → W p l e R s m args below meth c H1 locs1 (cells + mc) (slots + ms) Q (F0 m (pc + 3) ls rest)) : W p l e R s m args below meth c H locs cells slots Q (F0 m pc ls st0) := by
  have hD1 : va_D (AA N0) [(q0, c0)] := ⟨fun i j p q hp hq _ => by
    have h1 : i < 1 := (List.getElem?_eq_some_iff.mp hp).1
    have h2 : j < 1 := (List.getElem?_eq_some_iff.mp hq).1
    omega, fun k q hk => by
    have h1 : k < 1 := (List.getElem?_eq_some_iff.mp hk).1
    obtain rfl : k = 0 := by omega
    cases hk
    exact hR.1⟩
  have hNs : N0 ≤ H.size := Nat.le_trans M.2.2.1 hS.1
  have hfr : ∀ q, va_A [(q0, c0)] H.size q → AA N0 q := fun q h => raw_N hD1 hNs h
  have hRA : ∀ q, va_A [(q0, c0)] H.size q → RA g ad N0 q := fun q h => ⟨hfr q h, fun k i hk e => by
    rcases h with ⟨j, x, h⟩ | h
    · have h1 : j < 1 := (List.getElem?_eq_some_iff.mp h).1
      obtain rfl : j = 0 := by omega
      cases h
      exact hR.2 k i hk e
    · exact absurd (hW.1 k i hk).1.lt (by omega)⟩
  refine va_callv (va_runI M.1 hM cw ⟨PR.blind, fun U hU hW9 => ⟨rfl, by rw [hU], by rw [hU]; exact va_P1 hat, hD1, M.2.mv hS hU hW9⟩⟩ rfl hn hsz hst (lv_room hro) hdg hf) hS (fun q _ h => hfr q h) hfr (fun ws1 t H1 locs1 ht _ hp hB _ hk1 hS1 => ?_)
  refine kk ws1 H1 locs1 hp (by rw [← ht]; exact hB.1) (va_D_w hB.2 hRA) (hW.kept2 fun k i h => hk1 _ (hW.1 k i h).1.lt (fun h9 => (hRA _ h9).2 k i h rfl)) hS1
theorem r_aast (M : Mx p m c cc nL s args Ts own D Z N0) (hS : va_S (AA N0) s.heap H locs) {a q n j t ci : Nat} {f : Nat → Option Nat} {r : vw_C} {vs : List Value} {E : String} (ha : va_at D vwCl (a, xR (Z t) n f) H) (hA : AA N0 a) (ht : (tyL Z)[t]? = some (Z t, .object E)) (hca : r.1 = E ∨ va_Nw (.castable r.1 E) s) (hv : va_at D vwCl (q, .inr (ci, vs)) H) (hc : vwCl[ci]? = some r) (hj : j < n) (hn : n < 2 ^ 31) (hdg : decode cc pc = .ok (.aastore, 1))
    (kk : ∀ (H1 : Heap) (locs1 : List Loc), va_at D vwCl (a, xR (Z t) n (va_up f j (some q))) H1 → (∀ x : Nat, x ≠ a → H1[x]? = H[x]?) → va_S (AA N0) s.heap H1 locs1 → W p l e R s m args below meth c H1 locs1 cells slots Q (F0 m (pc + 1) ls rest)) : W p l e R s m args below meth c H locs cells slots Q (F0 m pc ls (.ref q :: .int (nI j) :: .ref a :: rest)) := by
  obtain ⟨⟨hx, hb, hml, hown, hts⟩, hK, -, -⟩ := M
  obtain ⟨r', hr', cellV, g1, g2, g3, -⟩ := hv
  have hcls := (hK.1 ci r hc).2
  obtain ⟨kA, comp, k1, k2, k3, -⟩ := (hK.2 t _ ht).2
  obtain ⟨kE, hkE, -⟩ := Vm.findClass_spec k3
  obtain ⟨kC, hkC, -⟩ := hcls.2
  have hass : s.vm.assignable (D.1 ci) comp = true := by
    rcases hca with h | h
    · subst h
      obtain rfl : comp = D.1 ci := Option.some.inj (k3.symm.trans hcls.1)
      exact va_assign hcls
    · obtain ⟨c0, t1, f1, f2, f3⟩ := Cond.castable_spec (va_Nw.use (A := args) rfl h)
      cases hcls.1.symm.trans f1
      cases k3.symm.trans f2
      exact f3
  have hin : ¬ (nI j < 0 ∨ n ≤ (nI j).toNatClampNeg) := vp_in_nI hj hn
  refine W.aast hx hb ha (fun q h => by cases h) (fun h => by cases h) k1 k2 rfl hkE ⟨fun h => hin (Or.inl h), by show _ < (arrV _ _ _).slots.size; rw [arrV_size]; exact Nat.not_le.mp fun h => hin (Or.inr h)⟩ g1 (fun q h => by rw [g3] at h; cases h) (by rw [g2]; exact hkC) (by rw [g2]; exact hass) rfl rfl hdg fun H1 e1 z oq => ?_
  refine kk H1 _ ?_ oq (hS.put z oq hA)
  show H1[a]? = some (vp_cell _ _)
  rw [e1, nI_clamp (by omega)]
  rw [vp_cell_q, vp_cell_q, arrV_store]
  congr 2
  funext x
  by_cases hq : x = j
  · subst hq
    simp [updV, va_up, va_rf]
  · simp [updV, va_up, hq]
theorem r_putv (M : Mx p m c cc nL s args Ts own D Z N0) (hS0 : va_S (AA N0) s.heap H locs) {a ci : Nat} {fs : List Value} (hat : va_at D vwCl (a, .inr (ci, fs)) H) (hA : AA N0 a) {T : u_T} {N : Nat} (hc : vwCl[ci]? = some (C, T, N)) (hin : ∀ w ∈ u_ws C T N, w ∈ Ts) (ty0 : Nat → FieldType) (hty : ∀ k, k < N → parseFieldDescriptor (T k).2.2.1 = some (ty0 k)) (hnm : ∀ a, a < N → ∀ b, b < N → a ≠ b → (T a).2.1 ≠ (T b).2.1) (j : Nat) (hj : j < N) {ref : String} (hlink : Cond.fieldLink own index ref (T j).2.1 (T j).2.2.1 ∈ Ts) (hsame : ∀ x, s.fieldFound? (T j).1 (T j).2.1 (T j).2.2.1 = some x → s.fieldFound? ref (T j).2.1 (T j).2.2.1 = some x) (hfin : (T j).2.2.2 = false) {ty : FieldType} (hd : parseFieldDescriptor (T j).2.2.1 = some ty) {v : Value} (hn : narrow ty v = v) (hfit : fits ty v = true) (hlen : j < fs.length)
    (hdg : decode cc pc = .ok (.putfield index, 3)) (kk : ∀ (H1 : Heap) (locs1 : List Loc), va_at D vwCl (a, .inr (ci, fs.set j v)) H1 → (∀ x : Nat, x ≠ a → H1[x]? = H[x]?) → va_S (AA N0) s.heap H1 locs1 → W p l e R s m args below meth c H1 locs1 cells slots Q (F0 m (pc + 3) ls rest)) : W p l e R s m args below meth c H locs cells slots Q (F0 m pc ls (v :: .ref a :: rest)) := by
  obtain ⟨⟨hx, hb, hml, hown, hts⟩, hK, -, -⟩ := M
  have hap := va_apart (own := own) hts hin ty0 hty hnm hK hc
  obtain ⟨r, h1, cell, q1, q2, q3, q4⟩ := hat
  have hr : r = (C, T, N) := Option.some.inj (h1.symm.trans hc)
  subst hr
  obtain ⟨hS, hfc, kC, hkC, hkind⟩ := hK.1 ci _ hc
  obtain ⟨cf, kf, fi, f, hi, hsl⟩ := hS j hj
  have hlay := hts _ (hin _ (u_in_lay hj))
  unfold u_lay at hlay
  rw [if_neg (by rw [hfin]; decide)] at hlay
  have hst := (u_facts hfc hkC (u_lays hts hin hj) hi).1
  have h6 := u_store hfc hkC hkind hlay hi hd hn hfit
  refine W.putK hx hb (f := f) ⟨hown, hts _ hlink, ⟨_, _, _, hsame _ hi⟩, hst⟩ (by rw [q2]; exact h6) q1 q3 (by rw [hsl]; exact k2_hasslot (q4 j hj)) rfl rfl hdg fun H' e1 e2 e3 => ?_
  rw [hsl] at e1 ⊢
  exact kk H' _ ⟨_, hc, t_OB.to (V := updV (vp_V fs) j v) ⟨_, e1, q2, q3, t_set q4 hap hj _⟩ (fun a _ => vp_updV_set hlen _ a)⟩ e3 (hS0.put e2 e3 hA)
/-- rows of its own for a list: the field is written -/
theorem r_rows (M : Mx p m c cc nL s args Ts own D Z N0) (hW : Wd D Z N0 g ad H) (hS : va_S (AA N0) s.heap H locs) {L q : Nat} (hL : L < 2) (hz : ∀ x, g 4 L x = 0) (hq : va_at D vwCl (q, .inl (Z 2, 10, .inr (.inr (.inr (.inr (fun _ => none)))))) H) (hR : RA g ad N0 q) (hin : ∀ w ∈ wsJx4a65c0, w ∈ Ts) (hlink : Cond.fieldLink own index "java/util/ArrayList" "elementData" "[Ljava/lang/Object;" ∈ Ts) (hdg : decode cc pc = .ok (.putfield index, 3))
    (kk : ∀ (H1 : Heap) (locs1 : List Loc), Wd D Z N0 (up g 3 L 1 1) (ad2 ad 4 L q) H1 → va_S (AA N0) s.heap H1 locs1 → W p l e R s m args below meth c H1 locs1 cells slots Q (F0 m (pc + 3) ls rest)) : W p l e R s m args below meth c H locs cells slots Q (F0 m pc ls (.ref q :: .ref (ad 3 L) :: rest)) := by
  have hl3 : lv g 3 L := hL
  refine r_putv (C := RJx4a65c) (T := TJx4a65c) (N := 3) (ty := .array (.object "java/lang/Object")) M hS (hW.1 3 L hl3).1 (hW.1 3 L hl3).2 rfl hin tyJx4a65c tyJx4a65c_ok nmJx4a65c 1 (by decide) hlink (fun _ h9 => h9) rfl (by decide +kernel) rfl rfl (Nat.le_of_ble_eq_true rfl) hdg (fun H1 locs1 h1 oq hS1 => ?_)
  refine kk H1 locs1 ?_ hS1
  have hA : AdS ad (ad2 ad 4 L q) := (AdS.rf ad).up (by decide)
  have e3 : ∀ b j, ¬ (b = L ∧ j = 1) → up g 3 L 1 1 3 b j = g 3 b j := fun b j h => by rw [up_at, if_neg (fun e => h e.2)]
  refine hW.to (fun k i => k = 4 ∧ i = L) (fun k i hl hw => ?_) (fun k i hl hw => ?_) (fun k i k' i' a b _ => ⟨a.1.trans b.1.symm, a.2.trans b.2.symm⟩) (hW.2.2.1.up (Or.inr (by decide))) (fun L' hL' => ?_)
  · have hlv : lv g k i := by
      by_cases hk : k = 4 ∨ (10 ≤ k ∧ k ≤ 14)
      · rcases (show k = 4 ∨ k = 10 ∨ k = 11 ∨ k = 12 ∨ k = 13 ∨ k = 14 by omega) with rfl | rfl | rfl | rfl | rfl | rfl
        · refine ⟨hl.1, ?_⟩
          have := hl.2
          rw [e3 i 1 (fun e => hw ⟨rfl, e.1⟩)] at this
          exact this
        · have : i < up g 3 L 1 1 3 0 3 := hl
          rw [e3 0 3 (by omega)] at this; exact this
        · have : i < up g 3 L 1 1 3 0 3 := hl
          rw [e3 0 3 (by omega)] at this; exact this
        · obtain ⟨b1, b2⟩ : i / 2 < up g 3 L 1 1 3 0 3 ∧ up g 3 L 1 1 11 (i / 2) (i % 2) ≠ 0 := hl
          rw [e3 0 3 (by omega)] at b1; exact ⟨b1, b2⟩
        · have : i < up g 3 L 1 1 3 1 3 := hl
          rw [e3 1 3 (by omega)] at this; exact this
        · have : i < up g 3 L 1 1 3 1 3 := hl
          rw [e3 1 3 (by omega)] at this; exact this
      · exact lv_o hk hl
    have ea : ad2 ad 4 L q k i = ad k i := ad2_n _ _ _ _ hw
    refine ⟨hlv, ea, ?_⟩
    by_cases c3 : k = 3 ∧ i = L
    · obtain ⟨rfl, rfl⟩ := c3
      rw [ea]
      show va_at D vwCl (ad 3 i, .inr (2, [.int (nI (up g 3 i 1 1 3 i 0)), .ref (if up g 3 i 1 1 3 i 1 = 0 then Z 6 else ad2 ad 4 i q 4 i), .int (nI (up g 3 i 1 1 3 i 2))])) H1
      rw [e3 i 0 (by omega), e3 i 2 (by omega), show up g 3 i 1 1 3 i 1 = 1 by rw [up_at, if_pos ⟨rfl, rfl, rfl⟩], if_neg (by decide), ad2_s]
      exact h1
    · have er : up g 3 L 1 1 k i = g k i := up_n _ _ _ _ _ c3
      refine hW.keep hlv (oq _ (fun e => c3 (hW.2.1 k i 3 L hlv hl3 e))) ea ?_
      rw [er]
      refine ct_ad hA (fun e _ => ad2_n _ _ _ _ (fun e2 => c3 ⟨e, e2.2⟩)) (fun e x hx => ad2_n _ _ _ _ (by omega)) (fun e => ad2_n _ _ _ _ (by omega)) (fun e x hx => ad2_n _ _ _ _ (by omega)) (fun e => ad2_n _ _ _ _ (by omega))
  · obtain ⟨rfl, rfl⟩ := hw
    rw [ad2_s]
    refine ⟨?_, hR⟩
    have er : (fun x => if up g 3 i 1 1 4 i x = 0 then none else some (ad2 ad 4 i q (10 + 3 * i) x)) = fun _ => none := funext fun x => if_pos (hz x)
    show va_at D vwCl (q, xR (Z 2) 10 (fun x => if up g 3 i 1 1 4 i x = 0 then none else some (ad2 ad 4 i q (10 + 3 * i) x))) H1
    rw [er]
    exact hq.kept (oq _ (fun e => hR.2 3 i hl3 e.symm))
  · obtain ⟨v1, v2, v3⟩ := hW.2.2.2 L' hL'
    rw [e3 L' 2 (by omega), e3 L' 3 (by omega)]
    refine ⟨v1, fun h => ?_, v3⟩
    by_cases z : L' = L
    · rw [z, up_at, if_pos ⟨rfl, rfl, rfl⟩]; decide
    · rw [e3 L' 1 (fun e => z e.1)]; exact v2 h
/-- the element behind the last one -/
theorem r_elem (M : Mx p m c cc nL s args Ts own D Z N0) (hW : Wd D Z N0 g ad H) (hS : va_S (AA N0) s.heap H locs) {L n : Nat} (hL : L < 2) (h1 : g 3 L 1 ≠ 0) (hn : n < 8) (hlive : n < g 3 L 3) (hdg : decode cc pc = .ok (.aastore, 1))
    (kk : ∀ (H1 : Heap) (locs1 : List Loc), Wd D Z N0 (up g 4 L n 1) ad H1 → va_S (AA N0) s.heap H1 locs1 → W p l e R s m args below meth c H1 locs1 cells slots Q (F0 m (pc + 1) ls rest)) : W p l e R s m args below meth c H locs cells slots Q (F0 m pc ls (.ref (ad (10 + 3 * L) n) :: .int (nI n) :: .ref (ad 4 L) :: rest)) := by
  have hl4 : lv g 4 L := ⟨hL, h1⟩
  have hlE : lv g (10 + 3 * L) n := by
    rcases (show L = 0 ∨ L = 1 by omega) with rfl | rfl <;> exact hlive
  obtain ⟨ci, vs, r, hE, hc, hca⟩ : ∃ (ci : Nat) (vs : List Value) (r : vw_C), ct Z ad (10 + 3 * L) n (g (10 + 3 * L) n) = .inr (ci, vs) ∧ vwCl[ci]? = some r ∧ va_Nw (.castable r.1 "java/lang/Object") s := by
    rcases (show L = 0 ∨ L = 1 by omega) with rfl | rfl
    · exact ⟨6, _, _, rfl, rfl, M.2.2.2.cast (q := ("StartChain$Stage", "java/lang/Object")) (by decide)⟩
    · exact ⟨5, _, _, rfl, rfl, M.2.2.2.cast (q := ("StartChain$Secret", "java/lang/Object")) (by decide)⟩
  have hv := (hW.1 _ n hlE).1
  rw [hE] at hv
  refine r_aast (t := 2) (E := "java/lang/Object") M hS (hW.1 4 L hl4).1 (hW.1 4 L hl4).2 rfl (Or.inr hca) hv hc (show n < 10 by omega) (by decide) hdg (fun H1 locs1 ha oq hS1 => ?_)
  refine kk H1 locs1 (hW.st2 hl4 (fun b => up_at .. |>.trans (if_neg (by omega))) (fun b => up_at .. |>.trans (if_neg (by omega))) (fun b q => up_at .. |>.trans (if_neg (by omega))) ?_ oq (Or.inr (show (1 : Nat) ≤ 1 from Nat.le_refl 1)) (fun L' hL' => ?_)) hS1
  · have er : (fun q => if upr (g 4 L) n 1 q = 0 then none else some (ad (10 + 3 * L) q)) = va_up (fun q => if g 4 L q = 0 then none else some (ad (10 + 3 * L) q)) n (some (ad (10 + 3 * L) n)) := by
      funext q
      unfold upr va_up
      by_cases hq : q = n
      · rw [if_pos hq, if_pos hq, if_neg (by decide), hq]
      · rw [if_neg hq, if_neg hq]
    show va_at D vwCl (ad 4 L, xR (Z 2) 10 (fun q => if upr (g 4 L) n 1 q = 0 then none else some (ad (10 + 3 * L) q))) H1
    rw [er]
    exact ha
  · obtain ⟨v1, v2, v3⟩ := hW.2.2.2 L' hL'
    have e3 : ∀ j, up g 4 L n 1 3 L' j = g 3 L' j := fun j => by rw [up_at, if_neg (by omega)]
    rw [e3, e3, e3]
    refine ⟨v1, v2, fun j hj => ?_⟩
    rw [up_at]
    split
    · decide
    · exact v3 j hj
/-- the size, one more -/
theorem r_size (M : Mx p m c cc nL s args Ts own D Z N0) (hW : Wd D Z N0 g ad H) (hS : va_S (AA N0) s.heap H locs) {L n : Nat} (hL : L < 2) (h1 : g 3 L 1 ≠ 0) (hn : n < 8) (hlive : n < g 3 L 3) (h2 : g 3 L 2 = n) (h4 : g 4 L n ≠ 0) (hin : ∀ w ∈ wsJx4a65c0, w ∈ Ts) (hlink : Cond.fieldLink own index "java/util/ArrayList" "size" "I" ∈ Ts) (hdg : decode cc pc = .ok (.putfield index, 3))
    (kk : ∀ (H1 : Heap) (locs1 : List Loc), Wd D Z N0 (up g 3 L 2 (n + 1)) ad H1 → va_S (AA N0) s.heap H1 locs1 → W p l e R s m args below meth c H1 locs1 cells slots Q (F0 m (pc + 3) ls rest)) : W p l e R s m args below meth c H locs cells slots Q (F0 m pc ls (.int (nI (n + 1)) :: .ref (ad 3 L) :: rest)) := by
  have hl3 : lv g 3 L := hL
  refine r_putv (C := RJx4a65c) (T := TJx4a65c) (N := 3) (ty := .int) M hS (hW.1 3 L hl3).1 (hW.1 3 L hl3).2 rfl hin tyJx4a65c tyJx4a65c_ok nmJx4a65c 2 (by decide) hlink (fun _ h9 => h9) rfl (by decide +kernel) rfl rfl (Nat.le_of_ble_eq_true rfl) hdg (fun H1 locs1 ha oq hS1 => ?_)
  refine kk H1 locs1 (hW.st2 hl3 (fun b => up_at .. |>.trans (if_neg (by omega))) (fun b => up_at .. |>.trans (if_neg (by omega))) (fun b q => up_at .. |>.trans (if_neg (by omega))) ha oq (Or.inr (show n + 1 ≤ 8 by omega)) (fun L' hL' => ?_)) hS1
  obtain ⟨v1, v2, v3⟩ := hW.2.2.2 L' hL'
  have e4 : ∀ j, up g 3 L 2 (n + 1) 4 L' j = g 4 L' j := fun j => by rw [up_at, if_neg (by omega)]
  have e33 : up g 3 L 2 (n + 1) 3 L' 3 = g 3 L' 3 := by rw [up_at, if_neg (by omega)]
  have e31 : up g 3 L 2 (n + 1) 3 L' 1 = g 3 L' 1 := by rw [up_at, if_neg (by omega)]
  rw [e33, e31]
  simp only [e4]
  by_cases z : L' = L
  · subst z
    rw [up_at, if_pos ⟨rfl, rfl, rfl⟩]
    refine ⟨by omega, fun _ => h1, fun j hj => ?_⟩
    by_cases y : j = n
    · rw [y]; exact h4
    · exact v3 j (by omega)
  · rw [up_at, if_neg (fun e => z e.2.1)]
    exact ⟨v1, v2, v3⟩
/-- an image comes into its slot -/
def imG (g : T3) (i s a b d : Nat) : T3 := up (up (up (up (up g 11 i s 1) 12 (2 * i + s) 0 a) 12 (2 * i + s) 1 b) 12 (2 * i + s) 2 d) 12 (2 * i + s) 3 0
theorem imG_o {g : T3} {i s a b d k x j : Nat} (h : ¬ (k = 11 ∧ x = i ∧ j = s)) (h' : ¬ (k = 12 ∧ x = 2 * i + s)) : imG g i s a b d k x j = g k x j := by
  unfold imG
  rw [up_at, if_neg (fun e => h' ⟨e.1, e.2.1⟩), up_at, if_neg (fun e => h' ⟨e.1, e.2.1⟩), up_at, if_neg (fun e => h' ⟨e.1, e.2.1⟩), up_at, if_neg (fun e => h' ⟨e.1, e.2.1⟩), up_at, if_neg h]
theorem imG_11 {g : T3} {i s a b d : Nat} : imG g i s a b d 11 i s = 1 := by
  unfold imG
  rw [up_at, if_neg (by omega), up_at, if_neg (by omega), up_at, if_neg (by omega), up_at, if_neg (by omega), up_at, if_pos ⟨rfl, rfl, rfl⟩]
theorem imG_12 {g : T3} {i s a b d : Nat} : imG g i s a b d 12 (2 * i + s) 0 = a ∧ imG g i s a b d 12 (2 * i + s) 1 = b ∧ imG g i s a b d 12 (2 * i + s) 2 = d ∧ imG g i s a b d 12 (2 * i + s) 3 = 0 := by
  unfold imG
  refine ⟨?_, ?_, ?_, ?_⟩ <;> simp [up_at]
theorem r_img (M : Mx p m c cc nL s args Ts own D Z N0) (hW : Wd D Z N0 g ad H) (hS : va_S (AA N0) s.heap H locs) {i x q a b d : Nat} (hl : i < g 3 0 3) (hx2 : x < 2) (h2 : ∀ i q, 2 ≤ q → g 11 i q = 0) (hq : va_at D vwCl (q, .inr (3, [.int (nI a), .int (nI b), .int (nI d), .int (nI 0)])) H) (hR : RA g ad N0 q) (ha : a ≤ 9) (hb9 : b ≤ 99) (hd : d ≤ 999) (hdg : decode cc pc = .ok (.aastore, 1))
    (kk : ∀ (H1 : Heap) (locs1 : List Loc), Wd D Z N0 (imG g i x a b d) (ad2 ad 12 (2 * i + x) q) H1 → va_S (AA N0) s.heap H1 locs1 → W p l e R s m args below meth c H1 locs1 cells slots Q (F0 m (pc + 1) ls rest)) : W p l e R s m args below meth c H locs cells slots Q (F0 m pc ls (.ref q :: .int (nI x) :: .ref (ad 11 i) :: rest)) := by
  have hl11 : lv g 11 i := hl
  refine r_aast (t := 3) (E := "StartChain$Image") M hS (hW.1 11 i hl11).1 (hW.1 11 i hl11).2 rfl (Or.inl rfl) hq rfl hx2 (by decide) hdg (fun H1 locs1 h1 oq hS1 => ?_)
  refine kk H1 locs1 ?_ hS1
  have hA : AdS ad (ad2 ad 12 (2 * i + x) q) := (AdS.rf ad).up (by decide)
  have g3 : ∀ b' j, imG g i x a b d 3 b' j = g 3 b' j := fun b' j => imG_o (by omega) (by omega)
  refine hW.to (fun k i' => k = 12 ∧ i' = 2 * i + x) (fun k i' hl' hw => ?_) (fun k i' hl' hw => ?_) (fun k i k' i' a b _ => ⟨a.1.trans b.1.symm, a.2.trans b.2.symm⟩) (fun k i' j => ?_) (fun L' hL' => ?_)
  · have hlv : lv g k i' := by
      by_cases hk : k = 4 ∨ (10 ≤ k ∧ k ≤ 14)
      · rcases (show k = 4 ∨ k = 10 ∨ k = 11 ∨ k = 12 ∨ k = 13 ∨ k = 14 by omega) with rfl | rfl | rfl | rfl | rfl | rfl
        · exact ⟨hl'.1, by have := hl'.2; rw [g3] at this; exact this⟩
        · have : i' < imG g i x a b d 3 0 3 := hl'
          rw [g3] at this; exact this
        · have : i' < imG g i x a b d 3 0 3 := hl'
          rw [g3] at this; exact this
        · obtain ⟨b1, b2⟩ : i' / 2 < imG g i x a b d 3 0 3 ∧ imG g i x a b d 11 (i' / 2) (i' % 2) ≠ 0 := hl'
          rw [g3] at b1
          rw [imG_o (fun e => hw ⟨rfl, by have := e.2; omega⟩) (by omega)] at b2
          exact ⟨b1, b2⟩
        · have : i' < imG g i x a b d 3 1 3 := hl'
          rw [g3] at this; exact this
        · have : i' < imG g i x a b d 3 1 3 := hl'
          rw [g3] at this; exact this
      · exact lv_o hk hl'
    have ea : ad2 ad 12 (2 * i + x) q k i' = ad k i' := ad2_n _ _ _ _ hw
    refine ⟨hlv, ea, ?_⟩
    by_cases c3 : k = 11 ∧ i' = i
    · obtain ⟨rfl, rfl⟩ := c3
      rw [ea]
      have er : (fun z => if imG g i' x a b d 11 i' z = 0 then none else some (ad2 ad 12 (2 * i' + x) q 12 (2 * i' + z))) = va_up (fun z => if g 11 i' z = 0 then none else some (ad 12 (2 * i' + z))) x (some q) := by
        funext z
        unfold va_up
        by_cases hz : z = x
        · rw [if_pos hz, hz, imG_11, if_neg (by decide), ad2_s]
        · rw [if_neg hz, imG_o (by omega) (by omega), ad2_n _ _ _ _ (by omega)]
      show va_at D vwCl (ad 11 i', xR (Z 3) 2 (fun z => if imG g i' x a b d 11 i' z = 0 then none else some (ad2 ad 12 (2 * i' + x) q 12 (2 * i' + z)))) H1
      rw [er]
      exact h1
    · have er : imG g i x a b d k i' = g k i' := funext fun j => imG_o (fun e => c3 ⟨e.1, e.2.1⟩) hw
      refine hW.keep hlv (oq _ (fun e => c3 (hW.2.1 k i' 11 i hlv hl11 e))) ea ?_
      rw [er]
      refine ct_ad hA (fun e _ => ad2_n _ _ _ _ (by omega)) (fun e z hz => ad2_n _ _ _ _ (fun e2 => ?_)) (fun e => ad2_n _ _ _ _ (by omega)) (fun e z hz => ad2_n _ _ _ _ (fun e2 => ?_)) (fun e => ad2_n _ _ _ _ (by omega))
      · omega
      · subst e
        by_cases z2 : 2 ≤ z
        · exact hz (h2 i' z z2)
        · exact c3 ⟨rfl, by have := e2.2; omega⟩
  · obtain ⟨rfl, rfl⟩ := hw
    rw [ad2_s]
    refine ⟨?_, hR⟩
    show va_at D vwCl (q, .inr (3, [.int (nI (imG g i x a b d 12 (2 * i + x) 0)), .int (nI (imG g i x a b d 12 (2 * i + x) 1)), .int (nI (imG g i x a b d 12 (2 * i + x) 2)), .int (nI (imG g i x a b d 12 (2 * i + x) 3))])) H1
    rw [imG_12.1, imG_12.2.1, imG_12.2.2.1, imG_12.2.2.2]
    exact hq.kept (oq _ (fun e => hR.2 11 i hl11 e.symm))
  · unfold imG
    exact (((((hW.2.2.1.up (k := 11) (Or.inr (Nat.le_refl 1))).up (k := 12) (j := 0) (Or.inr ha)).up (k := 12) (j := 1) (Or.inr hb9)).up (k := 12) (j := 2) (Or.inr hd)).up (k := 12) (j := 3) (Or.inr (Nat.zero_le _))) k i' j
  · obtain ⟨v1, v2, v3⟩ := hW.2.2.2 L' hL'
    rw [g3, g3, g3]
    exact ⟨v1, v2, fun j hj => by rw [imG_o (by omega) (by omega)]; exact v3 j hj⟩
end MADE
