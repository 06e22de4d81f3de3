/-! THE STATE of the class and of the reference, as numbers: kind, instance, slot; a place's address; what the heap holds of it. Kinds: 0 StartChain, 1 trusted, 2 agreed, 3 the two lists (0 stages, 1 secrets; slot 1: has rows of its own, slot 3: how many elements live), 4 their rows, 5 the two passes, 6..9 registers, log, slots, versions of a pass, 10 Stage, 11 its images, 12 Image (2 i + slot), 13 Secret, 14 its values, 20 StartChainModel, 21..39 its rows, 40 the law's long, 41 its double. -/
abbrev T3 : Type := Nat → Nat → Nat → Nat
abbrev T2 : Type := Nat → Nat → Nat
def upr (r : Nat → Nat) (j v : Nat) : Nat → Nat := fun q => if q = j then v else r q
def up (g : T3) (k i j v : Nat) : T3 := fun a b => if a = k ∧ b = i then upr (g k i) j v else g a b
theorem up_s (g : T3) (k i j v : Nat) : up g k i j v k i = upr (g k i) j v := if_pos ⟨rfl, rfl⟩
theorem up_n (g : T3) (k i j v : Nat) {a b : Nat} (h : ¬(a = k ∧ b = i)) : up g k i j v a b = g a b := if_neg h
theorem up_at (g : T3) (k i j v a b q : Nat) : up g k i j v a b q = if a = k ∧ b = i ∧ q = j then v else g a b q := by
  unfold up upr
  by_cases h1 : a = k ∧ b = i
  · obtain ⟨rfl, rfl⟩ := h1
    by_cases h2 : q = j <;> simp [h2]
  · rw [if_neg h1, if_neg (fun h => h1 ⟨h.1, h.2.1⟩)]
abbrev xI (Z : Nat → Nat) (n : Nat) (r : Nat → Nat) : va_E := .inl (Z 0, n, .inl fun q => nI (r q))
abbrev xZ (Z : Nat → Nat) (n : Nat) (r : Nat → Nat) : va_E := .inl (Z 1, n, .inl fun q => nI (r q))
abbrev xR (c : Nat) (n : Nat) (f : Nat → Option Nat) : va_E := .inl (c, n, .inr (.inr (.inr (.inr f))))
def ct (Z : Nat → Nat) (ad : T2) (k i : Nat) (r : Nat → Nat) : va_E := match k with
  | 0 => .inr (7, [.ref (ad 1 0), .ref (ad 3 0), .ref (ad 3 1), .ref (ad 2 0), .ref (ad 5 0), .ref (ad 5 1), .int (nI (r 6)), .int (nI (r 7))])
  | 1 => xZ Z 10 r
  | 2 => xZ Z 5 r
  | 3 => .inr (2, [.int (nI (r 0)), .ref (if r 1 = 0 then Z 6 else ad 4 i), .int (nI (r 2))])
  | 4 => xR (Z 2) 10 fun q => if r q = 0 then none else some (ad (10 + 3 * i) q)
  | 5 => .inr (4, [.ref (ad 6 i), .ref (ad 7 i), .int (nI (r 2)), .ref (ad 8 i), .ref (ad 9 i), .int (nI (r 5)), .int (nI (r 6))])
  | 6 => xI Z 3 r
  | 7 => xI Z 12 r
  | 8 => xI Z 6 r
  | 9 => xI Z 6 r
  | 10 => .inr (6, [.int (nI (r 0)), .ref (ad 11 i), .int (nI (r 2)), .int (nI (r 3))])
  | 11 => xR (Z 3) 2 fun q => if r q = 0 then none else some (ad 12 (2 * i + q))
  | 12 => .inr (3, [.int (nI (r 0)), .int (nI (r 1)), .int (nI (r 2)), .int (nI (r 3))])
  | 13 => .inr (5, [.int (nI (r 0)), .int (nI (r 1)), .ref (ad 14 i)])
  | 14 => xI Z 3 r
  | 20 => .inr (8, [.ref (ad 21 0), .ref (ad 22 0), .ref (ad 23 0), .ref (ad 24 0), .ref (ad 25 0), .ref (ad 26 0), .ref (ad 27 0), .ref (ad 28 0), .ref (ad 29 0), .ref (ad 30 0), .ref (ad 31 0), .ref (ad 32 0), .ref (ad 33 0), .ref (ad 34 0), .ref (ad 35 0), .ref (ad 36 0), .ref (ad 37 0), .ref (ad 38 0), .ref (ad 39 0), .int (nI (r 19)), .int (nI (r 20)), .int (nI (r 21)), .int (nI (r 22)), .int (nI (r 23)), .int (nI (r 24)), .int (nI (r 25)), .int (nI (r 26)), .int (nI (r 27)), .int (nI (r 28))])
  | 21 => xZ Z 10 r
  | 22 => xZ Z 12 r
  | 23 => xZ Z 5 r
  | 24 => xI Z 6 r
  | 25 => xI Z 6 r
  | 26 => xI Z 6 r
  | 27 => xI Z 12 r
  | 28 => xI Z 12 r
  | 29 => xI Z 12 r
  | 30 => xI Z 6 r
  | 31 => xI Z 6 r
  | 32 => xI Z 12 r
  | 33 => xI Z 3 r
  | 34 => xI Z 6 r
  | 35 => xI Z 12 r
  | 36 => xI Z 3 r
  | 37 => xI Z 8 r
  | 38 => xI Z 8 r
  | 39 => xI Z 24 r
  | 40 => .inl (Z 4, 1, .inr (.inl fun q => lN (r q)))
  | _ => .inl (Z 5, 1, .inr (.inr (.inr (.inl fun q => UInt64.ofNat (r q)))))
def lv (g : T3) (k i : Nat) : Prop := match k with
  | 0 => i = 0
  | 1 => i = 0
  | 2 => i = 0
  | 3 => i < 2
  | 4 => i < 2 ∧ g 3 i 1 ≠ 0
  | 5 => i < 2
  | 6 => i < 2
  | 7 => i < 2
  | 8 => i < 2
  | 9 => i < 2
  | 10 => i < g 3 0 3
  | 11 => i < g 3 0 3
  | 12 => i / 2 < g 3 0 3 ∧ g 11 (i / 2) (i % 2) ≠ 0
  | 13 => i < g 3 1 3
  | 14 => i < g 3 1 3
  | _ => i = 0 ∧ 20 ≤ k ∧ k ≤ 41
/-- the greatest value of a slot; 0: none is kept -/
def bnd (k j : Nat) : Nat := match k with
  | 0 => if j = 6 then 127 else 0
  | 1 => 1
  | 2 => 1
  | 3 => if j = 0 then 0 else if j = 1 then 1 else 8
  | 4 => 1
  | 5 => if j = 2 then 12 else if j = 5 then 6 else 0
  | 6 => 9972
  | 7 => 2999
  | 8 => 1
  | 9 => 99
  | 10 => if j = 0 then 2 else if j = 2 then 1 else if j = 3 then 99 else 0
  | 11 => 1
  | 12 => if j = 0 then 9 else if j = 1 then 99 else if j = 2 then 999 else 1
  | 13 => if j = 0 then 7 else 5
  | 14 => 9972
  | 20 => if j = 19 then 127 else if j = 20 then 3 else if j = 21 then 6 else if j = 22 then 8 else if j = 23 then 12 else if j = 24 then 6 else if j = 26 then 12 else if j = 27 then 6 else 0
  | 21 => 1
  | 22 => 1
  | 23 => 1
  | 24 => 2
  | 25 => 1
  | 26 => 99
  | 27 => 9
  | 28 => 99
  | 29 => 999
  | 30 => 1
  | 31 => 99
  | 32 => 2999
  | 33 => 9972
  | 34 => 1
  | 35 => 2999
  | 36 => 9972
  | 37 => 7
  | 38 => 5
  | 39 => 9972
  | _ => 0
def okk (g : T3) : Prop := ∀ k i j, bnd k j = 0 ∨ g k i j ≤ bnd k j
theorem okk.le {g : T3} (h : okk g) (k i j n : Nat) (hb : bnd k j = n + 1) : g k i j ≤ n + 1 := by
  rcases h k i j with h | h
  · omega
  · omega
theorem okk.up {g : T3} (h : okk g) {k i j v : Nat} (hv : bnd k j = 0 ∨ v ≤ bnd k j) : okk (up g k i j v) := by
  intro a b q
  rw [up_at]
  by_cases e : a = k ∧ b = i ∧ q = j
  · rw [if_pos e, e.1, e.2.2]; exact hv
  · rw [if_neg e]; exact h a b q
def ivv (g : T3) : Prop := ∀ L, L < 2 → g 3 L 2 ≤ g 3 L 3 ∧ (g 3 L 2 ≠ 0 → g 3 L 1 ≠ 0) ∧ ∀ j, j < g 3 L 2 → g 4 L j ≠ 0
def safe (k j : Nat) : Bool := !(k == 4 || k == 11 || (k == 3 && j != 0))
theorem safe_3 {g : T3} {k i j v b q : Nat} (h : safe k j = true) (hq : q ≠ 0) : up g k i j v 3 b q = g 3 b q := by
  rw [up_at, if_neg]
  rintro ⟨rfl, -, rfl⟩
  simp [safe, hq] at h
theorem safe_4 {g : T3} {k i j v b q : Nat} (h : safe k j = true) : up g k i j v 4 b q = g 4 b q := by
  rw [up_at, if_neg]
  rintro ⟨rfl, -, rfl⟩
  simp [safe] at h
theorem safe_11 {g : T3} {k i j v b q : Nat} (h : safe k j = true) : up g k i j v 11 b q = g 11 b q := by
  rw [up_at, if_neg]
  rintro ⟨rfl, -, rfl⟩
  simp [safe] at h
theorem lv_of {g g' : T3} (h3 : ∀ b q, q ≠ 0 → g' 3 b q = g 3 b q) (h11 : ∀ b q, g' 11 b q = g 11 b q) {a b : Nat} (h : lv g' a b) : lv g a b := by
  unfold lv at h ⊢
  split at h <;> (try simp only [h3 _ _ (show (1 : Nat) ≠ 0 by decide), h3 _ _ (show (3 : Nat) ≠ 0 by decide), h11] at h) <;> exact h
theorem ivv.of {g g' : T3} (h3 : ∀ b q, q ≠ 0 → g' 3 b q = g 3 b q) (h4 : ∀ b q, g' 4 b q = g 4 b q) (h : ivv g) : ivv g' := by
  intro L hL
  rw [h3 L 2 (by decide), h3 L 3 (by decide), h3 L 1 (by decide)]
  simp only [h4]
  exact h L hL
/-- what the heap holds -/
def Wd (D : va_G) (Z : Nat → Nat) (N0 : Nat) (g : T3) (ad : T2) (H : Heap) : Prop :=
  (∀ k i, lv g k i → va_at D vwCl (ad k i, ct Z ad k i (g k i)) H ∧ N0 ≤ ad k i) ∧ (∀ k i k' i', lv g k i → lv g k' i' → ad k i = ad k' i' → k = k' ∧ i = i') ∧ okk g ∧ ivv g
abbrev AA (N0 : Nat) : Nat → Prop := fun q => N0 ≤ q
theorem Wd.st {D : va_G} {Z : Nat → Nat} {N0 : Nat} {g : T3} {ad : T2} {H H1 : Heap} (hW : Wd D Z N0 g ad H) {k i j v : Nat} (hs : safe k j = true) (hl : lv g k i) (hv : bnd k j = 0 ∨ v ≤ bnd k j) (ha : va_at D vwCl (ad k i, ct Z ad k i (upr (g k i) j v)) H1) (oq : ∀ q : Nat, q ≠ ad k i → H1[q]? = H[q]?) : Wd D Z N0 (up g k i j v) ad H1 := by
  obtain ⟨h1, h2, h3, h4⟩ := hW
  have e : ∀ a b, lv (up g k i j v) a b → lv g a b := fun a b h => lv_of (fun _ _ hq => safe_3 hs hq) (fun _ _ => safe_11 hs) h
  refine ⟨fun a b h => ?_, fun a b a' b' x y z => h2 a b a' b' (e _ _ x) (e _ _ y) z, h3.up hv, h4.of (fun _ _ hq => safe_3 hs hq) (fun _ _ => safe_4 hs)⟩
  obtain ⟨q1, q2⟩ := h1 a b (e _ _ h)
  by_cases c : a = k ∧ b = i
  · obtain ⟨rfl, rfl⟩ := c
    rw [up_s]
    exact ⟨ha, q2⟩
  · rw [up_n _ _ _ _ _ c]
    refine ⟨q1.kept (oq _ (fun z => c (h2 a b k i (e _ _ h) hl z))), q2⟩
theorem Wd.kept {D : va_G} {Z : Nat → Nat} {N0 : Nat} {g : T3} {ad : T2} {H H1 : Heap} (hW : Wd D Z N0 g ad H) (hq : ∀ q : Nat, q < H.size → H1[q]? = H[q]?) : Wd D Z N0 g ad H1 :=
  ⟨fun k i h => ⟨(hW.1 k i h).1.kept (hq _ (hW.1 k i h).1.lt), (hW.1 k i h).2⟩, hW.2⟩
def KK (D : va_G) (Z : Nat → Nat) (U : State) : Prop := va_K D vwCl [(Z 0, .int), (Z 1, .boolean), (Z 2, .object "java/lang/Object"), (Z 3, .object "StartChain$Image"), (Z 4, .long), (Z 5, .double)] U
theorem va_P1 {D : va_G} {cl : List vw_C} {q : Nat × va_E} {H : Heap} (h : va_at D cl q H) : va_P D cl [q] H := by
  intro k x hx
  cases k with
  | zero => cases hx; exact h
  | succ k => cases hx
theorem nar_Z {v : Nat} (h : v ≤ 1) : vp_nar .boolean (nI v) = nI v := by
  rcases (show v = 0 ∨ v = 1 by omega) with rfl | rfl <;> decide
theorem updr (r : Nat → Nat) (j v : Nat) : upd (fun q => nI (r q)) j (nI v) = fun q => nI (upr r j v q) := by
  funext q
  unfold upd upr
  by_cases h : q = j <;> simp [h]
/-- what no safe store touches: which objects live, what the lists hold -/
def Fr (g g' : T3) : Prop := (∀ b q, q ≠ 0 → g' 3 b q = g 3 b q) ∧ (∀ b q, g' 4 b q = g 4 b q) ∧ ∀ b q, g' 11 b q = g 11 b q
theorem Fr.rf (g : T3) : Fr g g := ⟨fun _ _ _ => rfl, fun _ _ => rfl, fun _ _ => rfl⟩
theorem Fr.up {g g' : T3} (h : Fr g g') {k i j v : Nat} (hs : safe k j = true) : Fr g (up g' k i j v) :=
  ⟨fun b q hq => (safe_3 hs hq).trans (h.1 b q hq), fun b q => (safe_4 hs).trans (h.2.1 b q), fun b q => (safe_11 hs).trans (h.2.2 b q)⟩
theorem Fr.trans {g g1 g2 : T3} (h : Fr g g1) (h2 : Fr g1 g2) : Fr g g2 :=
  ⟨fun b q hq => (h2.1 b q hq).trans (h.1 b q hq), fun b q => (h2.2.1 b q).trans (h.2.1 b q), fun b q => (h2.2.2 b q).trans (h.2.2 b q)⟩
theorem Fr.lv {g g' : T3} (h : Fr g g') {k i : Nat} (hl : lv g k i) : lv g' k i := lv_of (fun b q hq => (h.1 b q hq).symm) (fun b q => (h.2.2 b q).symm) hl
theorem lv0 (g : T3) : lv g 0 0 := rfl
theorem lv1 (g : T3) : lv g 1 0 := rfl
theorem lv2 (g : T3) : lv g 2 0 := rfl
theorem lvM (g : T3) : lv g 20 0 := ⟨rfl, by decide, by decide⟩
theorem nar_b {v : Nat} (h : v ≤ 1) : narrow .boolean (.int (nI v)) = .int (nI v) := by
  rcases (show v = 0 ∨ v = 1 by omega) with rfl | rfl <;> decide
theorem pk_m1s {n : Nat} (h : 1 ≤ n) : nI n + Int32.ofInt (-1) = nI (n - 1) := by
  cases n with
  | zero => omega
  | succ n => exact pk_m1 n
/-! WHAT EVERY METHOD STANDS ON beside its cells: the classes, the statics that a throw reads, the texts, the words that no list of a method carries; and the four forms of a contract. -/
def strL : List (Nat × String) := [(123, "not off, or no stages"), (134, "off"), (139, "does not run"), (154, "no such stage"), (162, "the stage does not run"), (181, "no stages"), (183, "no such entry"), (185, "registers or people out of range"), (187, "does not run, or no room for a secret"), (206, "the secret does not open"), (217, "no secret opens from there on"), (219, "no such person"), (224, "does not run, or the secret opens"), (231, "too few people agree"), (239, "no secrets"), (242, "no stage runs"), (244, "no such slot"), (250, "the slot is empty"), (252, "no such secret"), (50, "no such key"), (59, "no such register"), (67, "no room for a stage, or not off"), (83, "key, version or measure out of range")]
def casL : List (String × String) := [("java/lang/ArithmeticException", "java/lang/ArithmeticException"), ("java/lang/IllegalArgumentException", "java/lang/IllegalArgumentException"), ("java/lang/IllegalStateException", "java/lang/IllegalStateException"), ("java/lang/IndexOutOfBoundsException", "java/lang/IndexOutOfBoundsException"), ("java/lang/UnsupportedOperationException", "java/lang/UnsupportedOperationException"), ("java/util/NoSuchElementException", "java/util/NoSuchElementException"), ("StartChain$Stage", "java/lang/Object"), ("StartChain$Secret", "java/lang/Object")]
def decL : List String := ["java/lang/Throwable", "java/lang/Exception", "java/lang/RuntimeException"]
def ncaL : List (String × String) := [("java/lang/IllegalStateException", "java/lang/IllegalArgumentException"), ("java/lang/IllegalArgumentException", "java/lang/IndexOutOfBoundsException"), ("java/util/NoSuchElementException", "java/lang/IndexOutOfBoundsException"), ("java/lang/IllegalStateException", "java/lang/IndexOutOfBoundsException"), ("java/lang/UnsupportedOperationException", "java/lang/IndexOutOfBoundsException"), ("java/lang/UnsupportedOperationException", "java/lang/IllegalStateException")]
def EV (N0 : Nat) (Z : Nat → Nat) (U : State) : Prop :=
  (vx_Zq Bundle.tN "UNASSIGNED_STACK" Bundle.steD (AA N0) U U.heap ∧ vx_Zq Bundle.tN "SUPPRESSED_SENTINEL" Bundle.listD (AA N0) U U.heap) ∧
  (∀ q ∈ strL, ∃ a, vk_R "StartChain" q.1 q.2 a U) ∧ (∀ q ∈ casL, va_Nw (.castable q.1 q.2) U) ∧ (∀ x ∈ decL, va_Nw (.declares (Bundle.initS x)) U) ∧ (∀ q ∈ ncaL, va_Nc q.1 q.2 U) ∧
  (va_AO "java/lang/Object" U ∧ va_AO "StartChain$Image" U) ∧
  va_Z "java/util/ArrayList" "DEFAULTCAPACITY_EMPTY_ELEMENTDATA" "[Ljava/lang/Object;" (.ref (Z 6)) (AA N0) U U.heap ∧ va_T (.object "java/lang/Object") (Z 6) 0 (fun _ => .null) (AA N0) U U.heap ∧ va_Nw (.methodLinkNest RX1 40 yX4_fold RX4) U
theorem EV.mv {N0 : Nat} {Z : Nat → Nat} {s U : State} (h : EV N0 Z s) (hW : s.WarmedH U.vm) (hk : ∀ a : Nat, a < s.heap.size → ¬ AA N0 a → U.heap[a]? = s.heap[a]?) : EV N0 Z U := by
  obtain ⟨⟨h1, h2⟩, h3, h4, h5, h6, ⟨h7, h8⟩, h9, h10, h11⟩ := h
  have al := hW.alike
  refine ⟨⟨vx_Zq.moved al (h1.kept hk), vx_Zq.moved al (h2.kept hk)⟩, fun q hq => ?_, fun q hq => va_Nw.warmC hW (h4 q hq), fun x hx => va_Nw.warmD hW (h5 x hx), fun q hq => ?_, ⟨va_AO.moved al h7, va_AO.moved al h8⟩, va_Z.moved al (h9.kept hk), va_T.moved al (h10.kept hk), va_Nw.warmM hW h11⟩
  · obtain ⟨a, ha⟩ := h3 q hq
    exact ⟨a, vk_R.warm hW ha⟩
  · obtain ⟨c, t, e1, e2, e3⟩ := h6 q hq
    exact ⟨c, t, by rw [al.findClass]; exact e1, by rw [al.findClass]; exact e2, by rw [al.assignable]; exact e3⟩
theorem EV.nest {N0 : Nat} {Z : Nat → Nat} {U : State} (h : EV N0 Z U) : va_Nw (.methodLinkNest RX1 40 yX4_fold RX4) U := h.2.2.2.2.2.2.2.2
def Cx (D : va_G) (Z : Nat → Nat) (N0 : Nat) (U : State) : Prop := KK D Z U ∧ N0 ≤ U.heap.size ∧ EV N0 Z U
theorem Cx.mv {D : va_G} {Z : Nat → Nat} {N0 : Nat} {s U : State} {H : Heap} {locs : List Loc} (h : Cx D Z N0 s) (hS : va_S (AA N0) s.heap H locs) (hU : U.heap = H) (hW : s.WarmedH U.vm) : Cx D Z N0 U :=
  ⟨va_K.moved hW.alike h.1, by rw [hU]; exact Nat.le_trans h.2.1 hS.1, h.2.2.mv hW (by rw [hU]; exact hS.2.1)⟩
theorem Cx.call {D : va_G} {Z : Nat → Nat} {N0 : Nat} {U : State} (h : Cx D Z N0 U) (g : JFrame) (mk : MethodId) (a : Array Value) : Cx D Z N0 (U.calling g mk a) :=
  ⟨va_K.moved (u := U) (U := U.calling g mk a) (Vm.Alike.refl U.vm) h.1, h.2.1, h.2.2.mv (U := U.calling g mk a) (State.WarmedH.refl U) (fun _ _ _ => rfl)⟩
def Mx (p : Program) (m : MethodId) (c : Code) (cc : ByteArray) (nL : Nat) (s : State) (args : Array Value) (Ts : List Cond) (own : String) (D : va_G) (Z : Nat → Nat) (N0 : Nat) : Prop := CallFix p m c cc nL s args Ts own ∧ Cx D Z N0 s
def PC (D : va_G) (Z : Nat → Nat) (N0 : Nat) (g : T3) (ad : T2) (av : List Value) : Array Value → State → Prop := va_Pc av (fun U => Wd D Z N0 g ad U.heap ∧ Cx D Z N0 U)
theorem PC.blind {D : va_G} {Z : Nat → Nat} {N0 : Nat} {g : T3} {ad : T2} {av : List Value} : FrameBlind (PC D Z N0 g ad av) := fun a U g9 mk q => ⟨q.1, q.2.1, q.2.2.call g9 mk a⟩
abbrev QB (D : va_G) (Z : Nat → Nat) (N0 : Nat) (ad : T2) : T3 → State → Prop := fun g t => Wd D Z N0 g ad t.heap
abbrev QI (D : va_G) (Z : Nat → Nat) (N0 : Nat) (ad : T2) (post : Int32 → T3 → Prop) : Array Value → State → Outcome → State → Prop := va_Qi post (QB D Z N0 ad) (AA N0)
abbrev QV (D : va_G) (Z : Nat → Nat) (N0 : Nat) (ad : T2) (post : T3 → Prop) : Array Value → State → Outcome → State → Prop := va_Qv post (QB D Z N0 ad) (AA N0)
abbrev QF (D : va_G) (Z : Nat → Nat) (N0 : Nat) (ad : T2) (post : UInt32 → T3 → Prop) : Array Value → State → Outcome → State → Prop := va_Qf post (QB D Z N0 ad) (AA N0)
abbrev QD (D : va_G) (Z : Nat → Nat) (N0 : Nat) (ad : T2) (post : UInt64 → T3 → Prop) : Array Value → State → Outcome → State → Prop := va_Qd post (QB D Z N0 ad) (AA N0)
abbrev QR (D : va_G) (Z : Nat → Nat) (N0 : Nat) (ad : T2) (post : Nat → T3 → Prop) : Array Value → State → Outcome → State → Prop := va_Qr (fun _ : T3 => True) (fun g a t => post a g ∧ Wd D Z N0 g ad t.heap) (AA N0)
abbrev QX (D : va_G) (Z : Nat → Nat) (N0 : Nat) (g : T3) (ad : T2) (px : String → Prop) : String → State → State → Prop := vx_X (fun _ : Unit => True) (fun E _ t => px E ∧ Wd D Z N0 g ad t.heap) (AA N0)
theorem r_recv {D : va_G} {Z : Nat → Nat} {N0 : Nat} {g : T3} {ad : T2} {H : Heap} {s : State} (hC : Cx D Z N0 s) (hW : Wd D Z N0 g ad H) (k i : Nat) (hl : lv g k i) {ci : Nat} {fs : List Value} (hct : ct Z ad k i (g k i) = .inr (ci, fs)) {q : vw_C} (hc : vwCl[ci]? = some q) : ∃ cell : Cell, H[ad k i]? = some cell ∧ cell.vm.isStatics = false ∧ s.vm.findClass q.1 = some cell.cls := by
  have hP := va_P1 (hW.1 k i hl).1
  rw [hct] at hP
  exact va_recv hC.1 hP (q0 := 0) hc rfl
section LOGIC
variable {p : Program} {l : Launch} {e : Env} {R : Room} {s : State} {m : MethodId} {args : Array Value} {below : List Frame} {meth : Method} {c : Code} {H : Heap} {locs : List Loc} {cells slots : Nat} {Q : State → Prop}
variable {cc bytes : ByteArray} {nL maxL index n mc ms : Nat} {Ts ws : List Cond} {own C : String} {y : MethodName} {ret : Option FieldType} {rm : Room} {D : va_G} {Z : Nat → Nat} {N0 : Nat} {g : T3} {ad : T2} {pc : Nat} {ls : Array Slot} {rest st0 As : List Value} {b : Nat}
theorem k_pV (M : Mx p m c cc nL s args Ts own D Z N0) (hW : Wd D Z N0 g ad H) (hS : va_S (AA N0) s.heap H locs) (hrv : ∃ cell : Cell, H[b]? = some cell ∧ cell.vm.isStatics = false ∧ s.vm.findClass C = some cell.cls) : PreV s H C b (PC D Z N0 g ad (.ref b :: As)) As :=
  ⟨PC.blind, hrv, fun U hU hW9 => ⟨rfl, by rw [hU]; exact hW, M.2.mv hS hU hW9⟩⟩
theorem k_pS (M : Mx p m c cc nL s args Ts own D Z N0) (hW : Wd D Z N0 g ad H) (hS : va_S (AA N0) s.heap H locs) : PreS s H (PC D Z N0 g ad As) As :=
  ⟨PC.blind, fun U hU hW9 => ⟨rfl, by rw [hU]; exact hW, M.2.mv hS hU hW9⟩⟩
/-- a call of an instance method: as it runs -/
theorem k_rV {Qc : Array Value → State → Outcome → State → Prop} (M : Mx p m c cc nL s args Ts own D Z N0) (hW : Wd D Z N0 g ad H) (hS : va_S (AA N0) s.heap H locs) (hM : Met l y ws rm (PC D Z N0 g ad (.ref b :: As)) Qc mc ms (AA N0)) (cw : CallW R s args own C index y bytes maxL ret ws rm mc ms n) (hrv : ∃ cell : Cell, H[b]? = some cell ∧ cell.vm.isStatics = false ∧ s.vm.findClass C = some cell.cls) (hn : As.length = n) (hsz : ls.size = nL) (hst : st0 = As.reverse ++ .ref b :: rest) (hro : (rest.map fun v => v.category).sum ≤ 8) (hdg : decode cc pc = .ok (.invokevirtual index, 3)) (hf : cells + mc ≤ R.cells ∧ slots + ms ≤ R.slots) :
    va_Run p l e R s m args below meth c H locs cells slots mc ms (F0 m pc ls st0) rest (Qc (Value.ref b :: As).toArray) (AA N0) :=
  va_runV M.1 hM cw (k_pV M hW hS hrv) rfl hn hsz hst (lv_room hro) hdg hf
theorem k_rS {Qc : Array Value → State → Outcome → State → Prop} (M : Mx p m c cc nL s args Ts own D Z N0) (hW : Wd D Z N0 g ad H) (hS : va_S (AA N0) s.heap H locs) (hM : Met l y ws rm (PC D Z N0 g ad As) Qc mc ms (AA N0)) (cw : CallB R s args own index y bytes maxL ret ws rm mc ms n ∧ (Cond.static y).before args s = true) (hn : As.length = n) (hsz : ls.size = nL) (hst : st0 = As.reverse ++ rest) (hro : (rest.map fun v => v.category).sum ≤ 8) (hdg : decode cc pc = .ok (.invokestatic index, 3)) (hf : cells + mc ≤ R.cells ∧ slots + ms ≤ R.slots) :
    va_Run p l e R s m args below meth c H locs cells slots mc ms (F0 m pc ls st0) rest (Qc As.toArray) (AA N0) :=
  va_runS M.1 hM cw (k_pS M hW hS) rfl hn hsz hst (lv_room hro) hdg hf
theorem k_rN {Qc : Array Value → State → Outcome → State → Prop} {host : String} (M : Mx p m c cc nL s args Ts own D Z N0) (hW : Wd D Z N0 g ad H) (hS : va_S (AA N0) s.heap H locs) (hM : Met l y ws rm (PC D Z N0 g ad As) Qc mc ms (AA N0)) (cw : va_CN R s args own index y host bytes maxL ret ws rm mc ms n ∧ (Cond.static y).before args s = true ∧ True) (hn : As.length = n) (hsz : ls.size = nL) (hst : st0 = As.reverse ++ rest) (hro : (rest.map fun v => v.category).sum ≤ 8) (hdg : decode cc pc = .ok (.invokestatic index, 3)) (hf : cells + mc ≤ R.cells ∧ slots + ms ≤ R.slots) :
    va_Run p l e R s m args below meth c H locs cells slots mc ms (F0 m pc ls st0) rest (Qc As.toArray) (AA N0) :=
  va_runSN M.1 hM cw (k_pS M hW hS) rfl hn hsz hst (lv_room hro) hdg hf
theorem k_ci {a : Array Value} {post : Int32 → T3 → Prop} {ad' : T2} (hr : va_Run p l e R s m args below meth c H locs cells slots mc ms (F0 m pc ls st0) rest (QI D Z N0 ad' post a) (AA N0)) (hS : va_S (AA N0) s.heap H locs)
    (kk : ∀ (r : Int32) (g1 : T3) (H1 : Heap) (locs1 : List Loc), post r g1 → Wd D Z N0 g1 ad' H1 → va_S (AA N0) s.heap H1 locs1 → W p l e R s m args below meth c H1 locs1 (cells + mc) (slots + ms) Q (F0 m (pc + 3) ls (.int r :: rest))) : W p l e R s m args below meth c H locs cells slots Q (F0 m pc ls st0) :=
  va_calli hr hS (fun _ _ h => h) (fun _ h => h) (fun r u t H1 locs1 ht _ hp hB _ _ hS1 => kk r u H1 locs1 hp (by rw [← ht]; exact hB) hS1)
theorem k_cv {a : Array Value} {post : T3 → Prop} {ad' : T2} (hr : va_Run p l e R s m args below meth c H locs cells slots mc ms (F0 m pc ls st0) rest (QV D Z N0 ad' post a) (AA N0)) (hS : va_S (AA N0) s.heap H locs)
    (kk : ∀ (g1 : T3) (H1 : Heap) (locs1 : List Loc), post g1 → Wd D Z N0 g1 ad' H1 → va_S (AA N0) s.heap H1 locs1 → W p l e R s m args below meth c H1 locs1 (cells + mc) (slots + ms) Q (F0 m (pc + 3) ls rest)) : W p l e R s m args below meth c H locs cells slots Q (F0 m pc ls st0) :=
  va_callv hr hS (fun _ _ h => h) (fun _ h => h) (fun u t H1 locs1 ht _ hp hB _ _ hS1 => kk u H1 locs1 hp (by rw [← ht]; exact hB) hS1)
theorem k_cr {a : Array Value} {post : Nat → T3 → Prop} {ad' : T2} (hr : va_Run p l e R s m args below meth c H locs cells slots mc ms (F0 m pc ls st0) rest (QR D Z N0 ad' post a) (AA N0)) (hS : va_S (AA N0) s.heap H locs)
    (kk : ∀ (r : Nat) (g1 : T3) (H1 : Heap) (locs1 : List Loc), post r g1 → Wd D Z N0 g1 ad' H1 → va_S (AA N0) s.heap H1 locs1 → W p l e R s m args below meth c H1 locs1 (cells + mc) (slots + ms) Q (F0 m (pc + 3) ls (.ref r :: rest))) : W p l e R s m args below meth c H locs cells slots Q (F0 m pc ls st0) :=
  va_callr hr hS (fun _ _ h => h) (fun _ h => h) (fun u r t H1 locs1 ht _ _ hB _ _ hS1 => kk r u H1 locs1 hB.1 (by rw [← ht]; exact hB.2) hS1)
theorem k_xV {Qc : Array Value → State → Outcome → State → Prop} {XC : String → State → State → Prop} (M : Mx p m c cc nL s args Ts own D Z N0) (hW : Wd D Z N0 g ad H) (hS : va_S (AA N0) s.heap H locs) (hM : vx_Met l y ws rm (PC D Z N0 g ad (.ref b :: As)) Qc XC mc ms (AA N0)) (cw : CallW R s args own C index y bytes maxL ret ws rm mc ms n) (hrv : ∃ cell : Cell, H[b]? = some cell ∧ cell.vm.isStatics = false ∧ s.vm.findClass C = some cell.cls) (hn : As.length = n) (hsz : ls.size = nL) (hst : st0 = As.reverse ++ .ref b :: rest) (hro : (rest.map fun v => v.category).sum ≤ 8) (hdg : decode cc pc = .ok (.invokevirtual index, 3)) (hf : cells + mc ≤ R.cells ∧ slots + ms ≤ R.slots) :
    vx_Run p l e R s m args below meth c H locs cells slots mc ms (F0 m pc ls st0) rest (Qc (Value.ref b :: As).toArray) XC (AA N0) :=
  vx_runV M.1 hM cw (k_pV M hW hS hrv) rfl hn hsz hst (lv_room hro) hdg hf
theorem k_xi {a : Array Value} {post : Int32 → T3 → Prop} {px : String → Prop} {ad' : T2} (hr : vx_Run p l e R s m args below meth c H locs cells slots mc ms (F0 m pc ls st0) rest (QI D Z N0 ad' post a) (QX D Z N0 g ad px) (AA N0)) (hS : va_S (AA N0) s.heap H locs)
    (kx : ∀ (E : String) (ce : Cell) (q9 : Addr) (H1 : Heap) (locs1 : List Loc), px E → Wd D Z N0 g ad H1 → va_S (AA N0) s.heap H1 locs1 → (H1[q9]? = some ce ∧ ce.vm = .none ∧ s.vm.findClass E = some ce.cls) → vx_W p l e R s m args below meth c H1 locs1 (cells + mc) (slots + ms) Q (F0 m pc ls rest) q9)
    (kk : ∀ (r : Int32) (g1 : T3) (H1 : Heap) (locs1 : List Loc), post r g1 → Wd D Z N0 g1 ad' H1 → va_S (AA N0) s.heap H1 locs1 → W p l e R s m args below meth c H1 locs1 (cells + mc) (slots + ms) Q (F0 m (pc + 3) ls (.int r :: rest))) : W p l e R s m args below meth c H locs cells slots Q (F0 m pc ls st0) :=
  vx_calli hr hS (fun _ _ h => h) (fun _ h => h) (fun _ _ h => h) (fun E ce q9 _ t H1 locs1 ht _ _ hB _ _ hS1 a1 a2 a3 => kx E ce q9 H1 locs1 hB.1 (by rw [← ht]; exact hB.2) hS1 ⟨a1, a2, a3⟩) (fun r u t H1 locs1 ht _ hp hB _ _ hS1 => kk r u H1 locs1 hp (by rw [← ht]; exact hB) hS1)
theorem k_xr {a : Array Value} {post : Nat → T3 → Prop} {px : String → Prop} {ad' : T2} (hr : vx_Run p l e R s m args below meth c H locs cells slots mc ms (F0 m pc ls st0) rest (QR D Z N0 ad' post a) (QX D Z N0 g ad px) (AA N0)) (hS : va_S (AA N0) s.heap H locs)
    (kx : ∀ (E : String) (ce : Cell) (q9 : Addr) (H1 : Heap) (locs1 : List Loc), px E → Wd D Z N0 g ad H1 → va_S (AA N0) s.heap H1 locs1 → (H1[q9]? = some ce ∧ ce.vm = .none ∧ s.vm.findClass E = some ce.cls) → vx_W p l e R s m args below meth c H1 locs1 (cells + mc) (slots + ms) Q (F0 m pc ls rest) q9)
    (kk : ∀ (r : Nat) (g1 : T3) (H1 : Heap) (locs1 : List Loc), post r g1 → Wd D Z N0 g1 ad' H1 → va_S (AA N0) s.heap H1 locs1 → W p l e R s m args below meth c H1 locs1 (cells + mc) (slots + ms) Q (F0 m (pc + 3) ls (.ref r :: rest))) : W p l e R s m args below meth c H locs cells slots Q (F0 m pc ls st0) := by
  intro T hT X
  rcases hr T hT X with ⟨v, st₀, t, T', L, h0, X', hL, e1, e2, ⟨⟨u, r, hv, -, hB⟩, hF⟩, st⟩ | ⟨q, st₀, t, T', L, E, ce, h0, X', hL, e1, e2, ⟨u, -, hB, hF⟩, hce, hcv, hcl, st⟩
  · cases hv
    obtain ⟨k1, k2, k3⟩ := vx_keep h0 e1 hS (fun _ _ h => h) (fun _ h => h) hL hF
    obtain ⟨t2, a1, b1⟩ := kk r u T'.heap (locs ++ L) hB.1 (by rw [e1]; exact hB.2) k3 T' rfl X'
    exact ⟨t2, st t2 a1, b1⟩
  · obtain ⟨k1, k2, k3⟩ := vx_keep h0 e1 hS (fun _ _ h => h) (fun _ h => h) hL hF
    obtain ⟨t2, a1, b1⟩ := kx E ce q T'.heap (locs ++ L) hB.1 (by rw [e1]; exact hB.2) k3 ⟨by rw [e1]; exact hce, hcv, hcl⟩ T' rfl X'
    exact ⟨t2, st.trans a1, b1⟩
/-- what was thrown goes on to the caller -/
theorem k_out {Qc : Array Value → State → Outcome → State → Prop} {px : String → Prop} {E : String} {ce : Cell} {q9 : Addr} (hE : px E) (hW : Wd D Z N0 g ad H) (hS : va_S (AA N0) s.heap H locs) (hc : H[q9]? = some ce ∧ ce.vm = .none ∧ s.vm.findClass E = some ce.cls) (hout : ∀ x ∈ c.exceptionTable.toList, False) (hlocks : meth.locks = false) (h1 : cells ≤ mc) (h2 : slots ≤ ms) :
    vx_W p l e R s m args below meth c H locs cells slots (vx_MQ below Qc (QX D Z N0 g ad px) args s mc ms (AA N0)) (F0 m pc ls rest) q9 :=
  vx_out (fun x hx => absurd (hout x hx) id) hlocks hc.1 hc.2.1 hc.2.2 (fun t ht _ => ⟨(), trivial, ⟨hE, by rw [ht]; exact hW⟩, hS.F ht⟩) hS.2.2 h1 h2
end LOGIC
