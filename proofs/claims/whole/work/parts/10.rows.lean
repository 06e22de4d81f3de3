section CORE
variable {p : Program} {l : Launch} {e : Env} {R : Room} {s : State} {m : MethodId} {args : Array Value} {below : List Frame} {meth : Method} {c : Code} {H : Heap} {locs : List Loc} {cells slots : Nat} {Q : State → Prop}
variable {cc : ByteArray} {nL : Nat} {Ts : List Cond} {own : String} {D : va_G} {Z : Nat → Nat} {N0 : Nat} {g : T3} {ad : T2} {pc : Nat} {ls : Array Slot} {rest : List Value}
theorem r_get (M : Mx p m c cc nL s args Ts own D Z N0) (hW : Wd D Z N0 g ad H) (k i : Nat) (hl : lv g k i) {ci : Nat} {fs : List Value} (hct : ct Z ad k i (g k i) = .inr (ci, fs)) {C : String} {T : u_T} {N : Nat} (hc : vwCl[ci]? = some (C, T, N)) (hin : ∀ w ∈ u_ws C T N, w ∈ Ts) (j : Nat) (hj : j < N) {index : Nat} {ref : String} (hlink : Cond.fieldLink own index ref (T j).2.1 (T j).2.2.1 ∈ Ts) (hsame : ∀ x, s.fieldFound? (T j).1 (T j).2.1 (T j).2.2.1 = some x → s.fieldFound? ref (T j).2.1 (T j).2.2.1 = some x) {v : Value} (hv : fs[j]? = some v) (hdg : decode cc pc = .ok (.getfield index, 3))
    (kk : W p l e R s m args below meth c H locs cells slots Q (F0 m (pc + 3) ls (v :: rest))) : W p l e R s m args below meth c H locs cells slots Q (F0 m pc ls (.ref (ad k i) :: rest)) := by
  obtain ⟨⟨hx, hb, hml, hown, hts⟩, hK, -, -⟩ := M
  have hP := va_P1 (hW.1 k i hl).1
  rw [hct] at hP
  exact va_get (D := D) (ci := ci) (v := v) (C := C) (T := T) (N := N) hx hb hts hin hown hK hP 0 rfl hc j hj (hts _ hlink) hsame hv hdg kk
theorem r_put (M : Mx p m c cc nL s args Ts own D Z N0) (hW : Wd D Z N0 g ad H) (hS0 : va_S (AA N0) s.heap H locs) (k i : Nat) (hl : lv g k i) {ci : Nat} {fs : List Value} (hct : ct Z ad k i (g k i) = .inr (ci, fs)) {C : String} {T : u_T} {N : Nat} (hc : vwCl[ci]? = some (C, T, N)) (hin : ∀ w ∈ u_ws C T N, w ∈ Ts) (ty0 : Nat → FieldType) (hty : ∀ k, k < N → parseFieldDescriptor (T k).2.2.1 = some (ty0 k)) (hnm : ∀ a, a < N → ∀ b, b < N → a ≠ b → (T a).2.1 ≠ (T b).2.1) (j : Nat) (hj : j < N) {index : Nat} {ref : String} (hlink : Cond.fieldLink own index ref (T j).2.1 (T j).2.2.1 ∈ Ts) (hsame : ∀ x, s.fieldFound? (T j).1 (T j).2.1 (T j).2.2.1 = some x → s.fieldFound? ref (T j).2.1 (T j).2.2.1 = some x) (hfin : (T j).2.2.2 = false) {ty : FieldType} (hd : parseFieldDescriptor (T j).2.2.1 = some ty) {v : Nat} (hn : narrow ty (.int (nI v)) = .int (nI v)) (hfit : fits ty (.int (nI v)) = true) (hlen : j < fs.length)
    (hct' : ct Z ad k i (upr (g k i) j v) = .inr (ci, fs.set j (.int (nI v)))) (hs : safe k j = true) (hv : bnd k j = 0 ∨ v ≤ bnd k j)
    (hdg : decode cc pc = .ok (.putfield index, 3)) (kk : ∀ (H1 : Heap) (locs1 : List Loc), Wd D Z N0 (up g k i j v) ad H1 → va_S (AA N0) s.heap H1 locs1 → W p l e R s m args below meth c H1 locs1 cells slots Q (F0 m (pc + 3) ls rest)) : W p l e R s m args below meth c H locs cells slots Q (F0 m pc ls (.int (nI v) :: .ref (ad k i) :: rest)) := by
  obtain ⟨⟨hx, hb, hml, hown, hts⟩, hK, -, -⟩ := M
  have hat := (hW.1 k i hl).1
  have hA := (hW.1 k i hl).2
  rw [hct] at hat
  have hap := va_apart (own := own) hts hin ty0 hty hnm hK hc
  obtain ⟨r, h1, cell, q1, q2, q3, q4⟩ := hat
  have hr : r = (C, T, N) := Option.some.inj (h1.symm.trans hc)
  subst hr
  obtain ⟨hS, hfc, kC, hkC, hkind⟩ := hK.1 ci _ hc
  obtain ⟨cf, kf, fi, f, hi, hsl⟩ := hS j hj
  have hlay := hts _ (hin _ (u_in_lay hj))
  unfold u_lay at hlay
  rw [if_neg (by rw [hfin]; decide)] at hlay
  have hst := (u_facts hfc hkC (u_lays hts hin hj) hi).1
  have h6 := u_store hfc hkC hkind hlay hi hd hn hfit
  refine W.putK hx hb (f := f) ⟨hown, hts _ hlink, ⟨_, _, _, hsame _ hi⟩, hst⟩ (by rw [q2]; exact h6) q1 q3 (by rw [hsl]; exact k2_hasslot (q4 j hj)) rfl rfl hdg fun H' e1 e2 e3 => ?_
  rw [hsl] at e1 ⊢
  refine kk H' _ (hW.st hs hl hv ?_ e3) (hS0.put e2 e3 hA)
  rw [hct']
  exact ⟨_, hc, t_OB.to (V := updV (vp_V fs) j (.int (nI v))) ⟨_, e1, q2, q3, t_set q4 hap hj _⟩ (fun a _ => vp_updV_set hlen _ a)⟩
theorem r_iald (M : Mx p m c cc nL s args Ts own D Z N0) (hW : Wd D Z N0 g ad H) (k i : Nat) (hl : lv g k i) {n : Nat} (hct : ct Z ad k i (g k i) = xI Z n (g k i)) {j : Nat} (hj : j < n) (hn : n < 2 ^ 31) (hdg : decode cc pc = .ok (.iaload, 1))
    (kk : W p l e R s m args below meth c H locs cells slots Q (F0 m (pc + 1) ls (.int (nI (g k i j)) :: rest))) : W p l e R s m args below meth c H locs cells slots Q (F0 m pc ls (.int (nI j) :: .ref (ad k i) :: rest)) := by
  obtain ⟨⟨hx, hb, hml, hown, hts⟩, hK, -, -⟩ := M
  have hP := va_P1 (hW.1 k i hl).1
  rw [hct] at hP
  refine va_iald hx hb hK hP 0 0 rfl rfl (vp_in_nI hj hn) hdg ?_
  rw [nI_clamp (by omega)]
  exact kk
theorem r_zald (M : Mx p m c cc nL s args Ts own D Z N0) (hW : Wd D Z N0 g ad H) (k i : Nat) (hl : lv g k i) {n : Nat} (hct : ct Z ad k i (g k i) = xZ Z n (g k i)) {j : Nat} (hj : j < n) (hn : n < 2 ^ 31) (hdg : decode cc pc = .ok (.baload, 1))
    (kk : W p l e R s m args below meth c H locs cells slots Q (F0 m (pc + 1) ls (.int (nI (g k i j)) :: rest))) : W p l e R s m args below meth c H locs cells slots Q (F0 m pc ls (.int (nI j) :: .ref (ad k i) :: rest)) := by
  obtain ⟨⟨hx, hb, hml, hown, hts⟩, hK, -, -⟩ := M
  have hP := va_P1 (hW.1 k i hl).1
  rw [hct] at hP
  refine va_zald hx hb hK hP 0 1 rfl rfl (vp_in_nI hj hn) hdg ?_
  rw [nI_clamp (by omega)]
  exact kk
theorem r_aald (M : Mx p m c cc nL s args Ts own D Z N0) (hW : Wd D Z N0 g ad H) (k i : Nat) (hl : lv g k i) {t n : Nat} {C : String} {f : Nat → Option Nat} (hct : ct Z ad k i (g k i) = xR (Z t) n f) (ht : ([(Z 0, .int), (Z 1, .boolean), (Z 2, .object "java/lang/Object"), (Z 3, .object "StartChain$Image"), (Z 4, .long), (Z 5, .double)] : List (Nat × FieldType))[t]? = some (Z t, .object C)) {j : Nat} (hj : j < n) (hn : n < 2 ^ 31) (hdg : decode cc pc = .ok (.aaload, 1))
    (kk : W p l e R s m args below meth c H locs cells slots Q (F0 m (pc + 1) ls (va_rf (f j) :: rest))) : W p l e R s m args below meth c H locs cells slots Q (F0 m pc ls (.int (nI j) :: .ref (ad k i) :: rest)) := by
  obtain ⟨⟨hx, hb, hml, hown, hts⟩, hK, -, -⟩ := M
  have hP := va_P1 (hW.1 k i hl).1
  rw [hct] at hP
  refine va_aldq hx hb hK hP 0 t rfl ht (vp_in_nI hj hn) hdg ?_
  rw [nI_clamp (by omega)]
  exact kk
theorem r_ist (M : Mx p m c cc nL s args Ts own D Z N0) (hW : Wd D Z N0 g ad H) (hS0 : va_S (AA N0) s.heap H locs) (k i : Nat) (hl : lv g k i) {n : Nat} (hct : ∀ r, ct Z ad k i r = xI Z n r) {j v : Nat} (hj : j < n) (hn : n < 2 ^ 31) (hs : safe k j = true) (hv : bnd k j = 0 ∨ v ≤ bnd k j) (hdg : decode cc pc = .ok (.iastore, 1))
    (kk : ∀ (H1 : Heap) (locs1 : List Loc), Wd D Z N0 (up g k i j v) ad H1 → va_S (AA N0) s.heap H1 locs1 → W p l e R s m args below meth c H1 locs1 cells slots Q (F0 m (pc + 1) ls rest)) : W p l e R s m args below meth c H locs cells slots Q (F0 m pc ls (.int (nI v) :: .int (nI j) :: .ref (ad k i) :: rest)) := by
  obtain ⟨⟨hx, hb, hml, hown, hts⟩, hK, -, -⟩ := M
  have hat := (hW.1 k i hl).1
  have hA := (hW.1 k i hl).2
  rw [hct] at hat
  refine W.iast hx hb hat ((hK.2 0 _ rfl).1 n (fun q => .int (nI (g k i q)))) (fun q => by cases q) (by show ¬ (nI j < 0 ∨ (arrV _ _ _).slots.size ≤ _); rw [arrV_size]; exact vp_in_nI hj hn) rfl rfl hdg fun H1 e z oq => ?_
  refine kk H1 _ (hW.st hs hl hv ?_ oq) (hS0.put z oq hA)
  rw [hct]
  show H1[ad k i]? = some (vp_cell _ _)
  rw [e, nI_clamp (by omega), ← updr]
  rw [vp_cell_i, vp_cell_i, arrV_store]
  congr 2
  funext q
  by_cases hq : q = j
  · subst hq
    simp [updV, upd]
  · simp [updV, upd, hq]
theorem r_zst (M : Mx p m c cc nL s args Ts own D Z N0) (hW : Wd D Z N0 g ad H) (hS0 : va_S (AA N0) s.heap H locs) (k i : Nat) (hl : lv g k i) {n : Nat} (hct : ∀ r, ct Z ad k i r = xZ Z n r) {j v : Nat} (hj : j < n) (hn : n < 2 ^ 31) (hs : safe k j = true) (hv1 : v ≤ 1) (hv : bnd k j = 0 ∨ v ≤ bnd k j) (hdg : decode cc pc = .ok (.bastore, 1))
    (kk : ∀ (H1 : Heap) (locs1 : List Loc), Wd D Z N0 (up g k i j v) ad H1 → va_S (AA N0) s.heap H1 locs1 → W p l e R s m args below meth c H1 locs1 cells slots Q (F0 m (pc + 1) ls rest)) : W p l e R s m args below meth c H locs cells slots Q (F0 m pc ls (.int (nI v) :: .int (nI j) :: .ref (ad k i) :: rest)) := by
  obtain ⟨⟨hx, hb, hml, hown, hts⟩, hK, -, -⟩ := M
  have hat := (hW.1 k i hl).1
  have hA := (hW.1 k i hl).2
  rw [hct] at hat
  refine W.zast hx hb hat ((hK.2 1 _ rfl).1 n (fun q => .int (nI (g k i q)))) (fun q => by cases q) (by show ¬ (nI j < 0 ∨ (arrV _ _ _).slots.size ≤ _); rw [arrV_size]; exact vp_in_nI hj hn) rfl rfl hdg fun H1 e z oq => ?_
  refine kk H1 _ (hW.st hs hl hv ?_ oq) (hS0.put z oq hA)
  rw [hct]
  show H1[ad k i]? = some (vp_cell _ _)
  rw [e, nI_clamp (by omega), ← updr]
  rw [vp_cell_i, vp_cell_i, arrV_store]
  congr 2
  have hnz : narrow .boolean (.int (nI v)) = .int (nI v) := by
    rcases (show v = 0 ∨ v = 1 by omega) with rfl | rfl <;> decide
  funext q
  by_cases hq : q = j
  · subst hq
    simp [updV, upd, hnz]
  · simp [updV, upd, hq]
theorem r_alen (M : Mx p m c cc nL s args Ts own D Z N0) (hW : Wd D Z N0 g ad H) (k i : Nat) (hl : lv g k i) {t n : Nat} {x : (Nat → Int32) ⊕ (Nat → Int64) ⊕ (Nat → UInt32) ⊕ (Nat → UInt64) ⊕ (Nat → Option Nat)} (hct : ct Z ad k i (g k i) = .inl (Z t, n, x)) {ty : FieldType} (ht : ([(Z 0, .int), (Z 1, .boolean), (Z 2, .object "java/lang/Object"), (Z 3, .object "StartChain$Image"), (Z 4, .long), (Z 5, .double)] : List (Nat × FieldType))[t]? = some (Z t, ty)) (hdg : decode cc pc = .ok (.arraylength, 1))
    (kk : W p l e R s m args below meth c H locs cells slots Q (F0 m (pc + 1) ls (.int (nI n) :: rest))) : W p l e R s m args below meth c H locs cells slots Q (F0 m pc ls (.ref (ad k i) :: rest)) := by
  obtain ⟨⟨hx, hb, hml, hown, hts⟩, hK, -, -⟩ := M
  have hP := va_P1 (hW.1 k i hl).1
  rw [hct] at hP
  exact va_alen hx hb hK hP 0 t rfl ht (v := nI n) rfl hdg kk
end CORE
/-- an index, a number between bounds -/
def Ix (n : Nat) (x : Int32) : Prop := ∃ j, j < n ∧ x = nI j
def Bt (n : Nat) (x : Int32) : Prop := ∃ j, 1 ≤ j ∧ j ≤ n ∧ x = nI j
def bP (r : Int32) (P : Prop) : Prop := (r = nI 1 ∧ P) ∨ (r = nI 0 ∧ ¬ P)
theorem ix_iff {n : Nat} (hn : n < 2 ^ 31) {x : Int32} : (nI 0 ≤ x ∧ x ≤ nI n - nI 1) ↔ Ix n x := by
  constructor
  · rintro ⟨h1, h2⟩
    obtain ⟨j, hj, rfl⟩ := nI_of (x := x) (Int32.not_lt.mpr h1)
    cases n with
    | zero => exact absurd (Int32.le_trans h1 h2) (by decide)
    | succ n =>
      rw [pk_sub (a := n + 1) (b := 1) (by omega)] at h2
      have h3 := (nI_leI hj (by omega)).mp h2
      exact ⟨j, by omega, rfl⟩
  · rintro ⟨j, hj, rfl⟩
    refine ⟨nI_le (Nat.zero_le _) (by omega), ?_⟩
    rw [pk_sub (a := n) (b := 1) (by omega)]
    exact nI_le (by omega) (by omega)
theorem bt_iff {n : Nat} (hn : n < 2 ^ 31) {x : Int32} : (nI 1 ≤ x ∧ x ≤ nI n) ↔ Bt n x := by
  constructor
  · rintro ⟨h1, h2⟩
    obtain ⟨j, hj, rfl⟩ := nI_of (x := x) (Int32.not_lt.mpr (Int32.le_trans (by decide) h1))
    exact ⟨j, (nI_leI (by omega) hj).mp h1, (nI_leI hj hn).mp h2, rfl⟩
  · rintro ⟨j, h1, h2, rfl⟩
    exact ⟨nI_le h1 (by omega), nI_le h2 hn⟩
theorem ix0_iff {n : Nat} (hn : n + 1 < 2 ^ 31) {x : Int32} : (nI 0 ≤ x ∧ x ≤ nI n) ↔ Ix (n + 1) x := by
  rw [← ix_iff hn, pk_sub (a := n + 1) (b := 1) (by omega), Nat.add_sub_cancel]
theorem ix_nI {n j : Nat} (hn : n < 2 ^ 31) (hj : j < 2 ^ 31) : Ix n (nI j) ↔ j < n := by
  constructor
  · rintro ⟨k, hk, e⟩
    rw [(nI_eq hj (by omega)).mp e]
    exact hk
  · exact fun h => ⟨j, h, rfl⟩

section NROWS
variable {p : Program} {l : Launch} {e : Env} {R : Room} {s : State} {m : MethodId} {args : Array Value} {below : List Frame} {meth : Method} {c : Code} {H : Heap} {locs : List Loc} {cells slots : Nat} {Q : State → Prop}
variable {cc : ByteArray} {pc : Nat} {ls : Array Slot} {rest : List Value}

theorem n_iadd (hexec : p.tables.exec = Jvm.exec) (hb : c.code = cc) {a b : Nat} (hdg : decode cc pc = .ok (.iadd, 1)) (kk : W p l e R s m args below meth c H locs cells slots Q (F0 m (pc + 1) ls (.int (nI (a + b)) :: rest))) : W p l e R s m args below meth c H locs cells slots Q (F0 m pc ls (.int (nI b) :: .int (nI a) :: rest)) := by
  refine lv_iadd hexec hb hdg ?_
  rw [nI_add]
  exact kk
theorem n_isub (hexec : p.tables.exec = Jvm.exec) (hb : c.code = cc) {a b : Nat} (h : b ≤ a) (hdg : decode cc pc = .ok (.isub, 1)) (kk : W p l e R s m args below meth c H locs cells slots Q (F0 m (pc + 1) ls (.int (nI (a - b)) :: rest))) : W p l e R s m args below meth c H locs cells slots Q (F0 m pc ls (.int (nI b) :: .int (nI a) :: rest)) := by
  refine lv_isub hexec hb hdg ?_
  rw [pk_sub h]
  exact kk
theorem n_imul (hexec : p.tables.exec = Jvm.exec) (hb : c.code = cc) {a b : Nat} (hdg : decode cc pc = .ok (.imul, 1)) (kk : W p l e R s m args below meth c H locs cells slots Q (F0 m (pc + 1) ls (.int (nI (a * b)) :: rest))) : W p l e R s m args below meth c H locs cells slots Q (F0 m pc ls (.int (nI b) :: .int (nI a) :: rest)) := by
  refine lv_imul hexec hb hdg ?_
  rw [pk_mul]
  exact kk
theorem n_idiv (hexec : p.tables.exec = Jvm.exec) (hb : c.code = cc) {a b : Nat} (hA : a < 2 ^ 31) (hp : 0 < b) (hB : b < 2 ^ 31) (hdg : decode cc pc = .ok (.idiv, 1)) (kk : W p l e R s m args below meth c H locs cells slots Q (F0 m (pc + 1) ls (.int (nI (a / b)) :: rest))) : W p l e R s m args below meth c H locs cells slots Q (F0 m pc ls (.int (nI b) :: .int (nI a) :: rest)) := by
  have h0 : ¬ nI b = 0 := nI_ne0 hp hB
  refine lv_idiv hexec hb hdg h0 ?_
  rw [pk_div hA hp hB]
  exact kk
theorem n_irem (hexec : p.tables.exec = Jvm.exec) (hb : c.code = cc) {a b : Nat} (hA : a < 2 ^ 31) (hp : 0 < b) (hB : b < 2 ^ 31) (hdg : decode cc pc = .ok (.irem, 1)) (kk : W p l e R s m args below meth c H locs cells slots Q (F0 m (pc + 1) ls (.int (nI (a % b)) :: rest))) : W p l e R s m args below meth c H locs cells slots Q (F0 m pc ls (.int (nI b) :: .int (nI a) :: rest)) := by
  have h0 : ¬ nI b = 0 := nI_ne0 hp hB
  refine lv_irem hexec hb hdg h0 ?_
  rw [pk_rem hA hp hB]
  exact kk
theorem n_ishr (hexec : p.tables.exec = Jvm.exec) (hb : c.code = cc) {a b : Nat} (hA : a < 2 ^ 31) (hB : ((nI b &&& 31).toBitVec.smod 32).toNat = b) (hdg : decode cc pc = .ok (.ishr, 1)) (kk : W p l e R s m args below meth c H locs cells slots Q (F0 m (pc + 1) ls (.int (nI (a / 2 ^ b)) :: rest))) : W p l e R s m args below meth c H locs cells slots Q (F0 m pc ls (.int (nI b) :: .int (nI a) :: rest)) := by
  refine lv_ishr hexec hb hdg ?_
  rw [pk_shrN hA _ b hB]
  exact kk
theorem n_iand1 (hexec : p.tables.exec = Jvm.exec) (hb : c.code = cc) {a : Nat} (hA : a < 2 ^ 32) (hdg : decode cc pc = .ok (.iand, 1)) (kk : W p l e R s m args below meth c H locs cells slots Q (F0 m (pc + 1) ls (.int (nI (a % 2)) :: rest))) : W p l e R s m args below meth c H locs cells slots Q (F0 m pc ls (.int (nI 1) :: .int (nI a) :: rest)) := by
  refine lv_iand hexec hb hdg ?_
  rw [pk_andN hA 1 (by decide)]
  exact kk
theorem n_icmp_eq (hexec : p.tables.exec = Jvm.exec) (hb : c.code = cc) {a b : Nat} (hA : a < 2 ^ 31) (hB : b < 2 ^ 31) {off : Int} {tgt : Nat} (hdg : decode cc pc = .ok (.if_icmp .eq off, 3)) (ht : (pc : Int) + off = (tgt : Int)) (kt : a = b → W p l e R s m args below meth c H locs cells slots Q (F0 m tgt ls rest)) (kf : ¬ a = b → W p l e R s m args below meth c H locs cells slots Q (F0 m (pc + 3) ls rest)) : W p l e R s m args below meth c H locs cells slots Q (F0 m pc ls (.int (nI b) :: .int (nI a) :: rest)) := by
  exact lv_icmp_eq hexec hb hdg ht (fun h => kt ((nI_eq hA hB).mp h)) (fun h => kf (fun z => h ((nI_eq hA hB).mpr z)))
theorem n_icmp_ne (hexec : p.tables.exec = Jvm.exec) (hb : c.code = cc) {a b : Nat} (hA : a < 2 ^ 31) (hB : b < 2 ^ 31) {off : Int} {tgt : Nat} (hdg : decode cc pc = .ok (.if_icmp .ne off, 3)) (ht : (pc : Int) + off = (tgt : Int)) (kt : ¬ a = b → W p l e R s m args below meth c H locs cells slots Q (F0 m tgt ls rest)) (kf : a = b → W p l e R s m args below meth c H locs cells slots Q (F0 m (pc + 3) ls rest)) : W p l e R s m args below meth c H locs cells slots Q (F0 m pc ls (.int (nI b) :: .int (nI a) :: rest)) := by
  exact lv_icmp_ne hexec hb hdg ht (fun h => kt (fun z => h ((nI_eq hA hB).mpr z))) (fun h => kf ((nI_eq hA hB).mp h))
theorem n_icmp_lt (hexec : p.tables.exec = Jvm.exec) (hb : c.code = cc) {a b : Nat} (hA : a < 2 ^ 31) (hB : b < 2 ^ 31) {off : Int} {tgt : Nat} (hdg : decode cc pc = .ok (.if_icmp .lt off, 3)) (ht : (pc : Int) + off = (tgt : Int)) (kt : a < b → W p l e R s m args below meth c H locs cells slots Q (F0 m tgt ls rest)) (kf : ¬ a < b → W p l e R s m args below meth c H locs cells slots Q (F0 m (pc + 3) ls rest)) : W p l e R s m args below meth c H locs cells slots Q (F0 m pc ls (.int (nI b) :: .int (nI a) :: rest)) := by
  exact lv_icmp_lt hexec hb hdg ht (fun h => kt ((nI_ltI hA hB).mp h)) (fun h => kf (fun z => h ((nI_ltI hA hB).mpr z)))
theorem n_icmp_ge (hexec : p.tables.exec = Jvm.exec) (hb : c.code = cc) {a b : Nat} (hA : a < 2 ^ 31) (hB : b < 2 ^ 31) {off : Int} {tgt : Nat} (hdg : decode cc pc = .ok (.if_icmp .ge off, 3)) (ht : (pc : Int) + off = (tgt : Int)) (kt : b ≤ a → W p l e R s m args below meth c H locs cells slots Q (F0 m tgt ls rest)) (kf : ¬ b ≤ a → W p l e R s m args below meth c H locs cells slots Q (F0 m (pc + 3) ls rest)) : W p l e R s m args below meth c H locs cells slots Q (F0 m pc ls (.int (nI b) :: .int (nI a) :: rest)) := by
  exact lv_icmp_ge hexec hb hdg ht (fun h => kt ((nI_leI hB hA).mp h)) (fun h => kf (fun z => h ((nI_leI hB hA).mpr z)))
theorem n_icmp_gt (hexec : p.tables.exec = Jvm.exec) (hb : c.code = cc) {a b : Nat} (hA : a < 2 ^ 31) (hB : b < 2 ^ 31) {off : Int} {tgt : Nat} (hdg : decode cc pc = .ok (.if_icmp .gt off, 3)) (ht : (pc : Int) + off = (tgt : Int)) (kt : b < a → W p l e R s m args below meth c H locs cells slots Q (F0 m tgt ls rest)) (kf : ¬ b < a → W p l e R s m args below meth c H locs cells slots Q (F0 m (pc + 3) ls rest)) : W p l e R s m args below meth c H locs cells slots Q (F0 m pc ls (.int (nI b) :: .int (nI a) :: rest)) := by
  exact lv_icmp_gt hexec hb hdg ht (fun h => kt ((nI_ltI hB hA).mp h)) (fun h => kf (fun z => h ((nI_ltI hB hA).mpr z)))
theorem n_icmp_le (hexec : p.tables.exec = Jvm.exec) (hb : c.code = cc) {a b : Nat} (hA : a < 2 ^ 31) (hB : b < 2 ^ 31) {off : Int} {tgt : Nat} (hdg : decode cc pc = .ok (.if_icmp .le off, 3)) (ht : (pc : Int) + off = (tgt : Int)) (kt : a ≤ b → W p l e R s m args below meth c H locs cells slots Q (F0 m tgt ls rest)) (kf : ¬ a ≤ b → W p l e R s m args below meth c H locs cells slots Q (F0 m (pc + 3) ls rest)) : W p l e R s m args below meth c H locs cells slots Q (F0 m pc ls (.int (nI b) :: .int (nI a) :: rest)) := by
  exact lv_icmp_le hexec hb hdg ht (fun h => kt ((nI_leI hA hB).mp h)) (fun h => kf (fun z => h ((nI_leI hA hB).mpr z)))
theorem n_if_eq (hexec : p.tables.exec = Jvm.exec) (hb : c.code = cc) {a : Nat} (hA : a < 2 ^ 31) {off : Int} {tgt : Nat} (hdg : decode cc pc = .ok (.ifCond .eq off, 3)) (ht : (pc : Int) + off = (tgt : Int)) (kt : a = 0 → W p l e R s m args below meth c H locs cells slots Q (F0 m tgt ls rest)) (kf : ¬ a = 0 → W p l e R s m args below meth c H locs cells slots Q (F0 m (pc + 3) ls rest)) : W p l e R s m args below meth c H locs cells slots Q (F0 m pc ls (.int (nI a) :: rest)) := by
  exact lv_if_eq hexec hb hdg ht (fun h => kt ((nI_eq (a := a) (b := 0) hA (by decide)).mp h)) (fun h => kf (fun z => h ((nI_eq (a := a) (b := 0) hA (by decide)).mpr z)))
theorem n_if_ne (hexec : p.tables.exec = Jvm.exec) (hb : c.code = cc) {a : Nat} (hA : a < 2 ^ 31) {off : Int} {tgt : Nat} (hdg : decode cc pc = .ok (.ifCond .ne off, 3)) (ht : (pc : Int) + off = (tgt : Int)) (kt : ¬ a = 0 → W p l e R s m args below meth c H locs cells slots Q (F0 m tgt ls rest)) (kf : a = 0 → W p l e R s m args below meth c H locs cells slots Q (F0 m (pc + 3) ls rest)) : W p l e R s m args below meth c H locs cells slots Q (F0 m pc ls (.int (nI a) :: rest)) := by
  exact lv_if_ne hexec hb hdg ht (fun h => kt (fun z => h ((nI_eq (a := a) (b := 0) hA (by decide)).mpr z))) (fun h => kf ((nI_eq (a := a) (b := 0) hA (by decide)).mp h))
theorem n_if_gt (hexec : p.tables.exec = Jvm.exec) (hb : c.code = cc) {a : Nat} (hA : a < 2 ^ 31) {off : Int} {tgt : Nat} (hdg : decode cc pc = .ok (.ifCond .gt off, 3)) (ht : (pc : Int) + off = (tgt : Int)) (kt : 0 < a → W p l e R s m args below meth c H locs cells slots Q (F0 m tgt ls rest)) (kf : ¬ 0 < a → W p l e R s m args below meth c H locs cells slots Q (F0 m (pc + 3) ls rest)) : W p l e R s m args below meth c H locs cells slots Q (F0 m pc ls (.int (nI a) :: rest)) := by
  exact lv_if_gt hexec hb hdg ht (fun h => kt ((nI_ltI (a := 0) (b := a) (by decide) hA).mp h)) (fun h => kf (fun z => h ((nI_ltI (a := 0) (b := a) (by decide) hA).mpr z)))
theorem n_if_le (hexec : p.tables.exec = Jvm.exec) (hb : c.code = cc) {a : Nat} (hA : a < 2 ^ 31) {off : Int} {tgt : Nat} (hdg : decode cc pc = .ok (.ifCond .le off, 3)) (ht : (pc : Int) + off = (tgt : Int)) (kt : a ≤ 0 → W p l e R s m args below meth c H locs cells slots Q (F0 m tgt ls rest)) (kf : ¬ a ≤ 0 → W p l e R s m args below meth c H locs cells slots Q (F0 m (pc + 3) ls rest)) : W p l e R s m args below meth c H locs cells slots Q (F0 m pc ls (.int (nI a) :: rest)) := by
  exact lv_if_le hexec hb hdg ht (fun h => kt ((nI_leI (a := a) (b := 0) hA (by decide)).mp h)) (fun h => kf (fun z => h ((nI_leI (a := a) (b := 0) hA (by decide)).mpr z)))
theorem n_if_lt (hexec : p.tables.exec = Jvm.exec) (hb : c.code = cc) {a : Nat} (hA : a < 2 ^ 31) {off : Int} {tgt : Nat} (hdg : decode cc pc = .ok (.ifCond .lt off, 3)) (ht : (pc : Int) + off = (tgt : Int)) (kt : a < 0 → W p l e R s m args below meth c H locs cells slots Q (F0 m tgt ls rest)) (kf : ¬ a < 0 → W p l e R s m args below meth c H locs cells slots Q (F0 m (pc + 3) ls rest)) : W p l e R s m args below meth c H locs cells slots Q (F0 m pc ls (.int (nI a) :: rest)) := by
  exact lv_if_lt hexec hb hdg ht (fun h => kt ((nI_ltI (a := a) (b := 0) hA (by decide)).mp h)) (fun h => kf (fun z => h ((nI_ltI (a := a) (b := 0) hA (by decide)).mpr z)))
theorem n_if_ge (hexec : p.tables.exec = Jvm.exec) (hb : c.code = cc) {a : Nat} (hA : a < 2 ^ 31) {off : Int} {tgt : Nat} (hdg : decode cc pc = .ok (.ifCond .ge off, 3)) (ht : (pc : Int) + off = (tgt : Int)) (kt : 0 ≤ a → W p l e R s m args below meth c H locs cells slots Q (F0 m tgt ls rest)) (kf : ¬ 0 ≤ a → W p l e R s m args below meth c H locs cells slots Q (F0 m (pc + 3) ls rest)) : W p l e R s m args below meth c H locs cells slots Q (F0 m pc ls (.int (nI a) :: rest)) := by
  exact lv_if_ge hexec hb hdg ht (fun h => kt ((nI_leI (a := 0) (b := a) (by decide) hA).mp h)) (fun h => kf (fun z => h ((nI_leI (a := 0) (b := a) (by decide) hA).mpr z)))
end NROWS
