/-! THE LAW'S CALLS: rows of its own, and what holds between them. -/
theorem addG_o {g : T3} {L n k a q : Nat} (h : ¬ (k = 3 ∧ a = L ∧ (q = 1 ∨ q = 2))) (h4 : ¬ (k = 4 ∧ a = L ∧ q = n)) : addG g L n k a q = g k a q := by
  unfold addG
  rw [up_o (by omega), up_o (by omega)]
  split
  · rw [up_o (by omega)]
  · rfl
theorem addG_2 {g : T3} {L n : Nat} : addG g L n 3 L 2 = n + 1 := by
  unfold addG
  rw [up_at, if_pos ⟨rfl, rfl, rfl⟩]
theorem Iv_as {g : T3} (hI : Iv g) (i : Nat) : Iv (asG g i) := by
  obtain ⟨h1, h2, h3⟩ := hI
  refine ⟨fun L hL => ?_, fun L q hL hq => ?_, fun a q hq => ?_⟩
  · by_cases z : L = 0
    · subst z
      rw [asG_2]
      unfold asG
      rw [addG_o (by omega) (by omega), up_o (by omega)]
      unfold stG
      rw [if_neg (by omega), if_neg (by omega), if_pos ⟨rfl, rfl, rfl⟩]
    · rw [asG_o (by omega) (by omega) (by omega), asG_o (by omega) (by omega) (by omega)]
      exact h1 L hL
  · by_cases z : L = 0
    · subst z
      rw [asG_2] at hq
      unfold asG
      rw [addG_o (by omega) (by omega), up_o (by omega), stG_o (by omega) (by omega)]
      exact h2 0 q hL (by omega)
    · rw [asG_o (by omega) (by omega) (by omega)] at hq
      unfold asG
      rw [addG_o (by omega) (by omega), up_o (by omega), stG_o (by omega) (by omega)]
      exact h2 L q hL hq
  · unfold asG
    rw [addG_o (by omega) (by omega), up_o (by omega)]
    by_cases z : a = g 3 0 2
    · unfold stG
      rw [if_neg (by omega), if_pos ⟨rfl, z⟩]
    · rw [stG_o (by omega) (by omega)]
      exact h3 a q hq
theorem Iv_im {g : T3} (hI : Iv g) {i s : Nat} (hs : s < 2) (k v q : Nat) : Iv (imG (up g 10 i 2 s) i s k v q) := by
  obtain ⟨h1, h2, h3⟩ := hI
  have e : ∀ a b x, ¬ (a = 11 ∧ b = i ∧ x = s) → ¬ a = 12 → ¬ a = 10 → imG (up g 10 i 2 s) i s k v q a b x = g a b x := fun a b x c d f => by rw [imG_o c (by omega), up_o (by omega)]
  refine ⟨fun L hL => ?_, fun L x hL hx => ?_, fun a x hx => ?_⟩
  · rw [e 3 L 3 (by omega) (by omega) (by omega), e 3 L 2 (by omega) (by omega) (by omega)]; exact h1 L hL
  · rw [e 3 L 2 (by omega) (by omega) (by omega)] at hx
    rw [e 4 L x (by omega) (by omega) (by omega)]; exact h2 L x hL hx
  · rw [e 11 a x (by omega) (by omega) (by omega)]; exact h3 a x hx
theorem Iv_sl {g : T3} (hI : Iv g) (x y : Nat) : Iv (slG g x y) := by
  obtain ⟨h1, h2, h3⟩ := hI
  have hb := (bind_eq (g := scG g (g 3 1 2) x y) (h := fun _ _ q => scG g (g 3 1 2) x y 6 0 q) (p := 0) (b := 0) (j := g 3 1 2) (fun _ _ => rfl)).2.1
  have e4 : ∀ L q, ¬ (L = 1 ∧ q = g 3 1 2) → slG g x y 4 L q = g 4 L q := fun L q c => by
    unfold slG
    rw [addG_o (by omega) (by omega), up_o (by omega), hb _ _ _ (by omega), scG_o (by omega) (by omega)]
  refine ⟨fun L hL => ?_, fun L q hL hq => ?_, fun a q hq => ?_⟩
  · by_cases z : L = 1
    · subst z
      rw [slG_2]
      unfold slG
      rw [addG_o (by omega) (by omega), up_o (by omega), hb _ _ _ (by omega)]
      unfold scG
      rw [if_neg (by omega), if_neg (by omega), if_pos ⟨rfl, rfl, rfl⟩]
    · rw [slG_o (by omega) (by omega) (by omega), slG_o (by omega) (by omega) (by omega)]
      exact h1 L hL
  · by_cases z : L = 1
    · subst z
      rw [slG_2] at hq
      rw [e4 1 q (by omega)]
      exact h2 1 q hL (by omega)
    · rw [slG_o (by omega) (by omega) (by omega)] at hq
      rw [e4 L q (by omega)]
      exact h2 L q hL hq
  · rw [slG_o (by omega) (by omega) (by omega)]
    exact h3 a q hq
theorem lcz (x : Int64) : lg_cmp x x = nI 0 := by
  unfold lg_cmp
  rw [if_neg (Int64.lt_irrefl), if_pos rfl]
  rfl
theorem dz_f : ∀ a, a < 9 → ∀ b, b < 9 → ¬ b = 0 → Op.cmpValue (FP.dcmp (FP.f2d (FP.fdiv (FP.i2f (nI a)) (FP.i2f (nI b)))) (FP.f2d (FP.fdiv (FP.i2f (nI a)) (FP.i2f (nI b))))) .l = nI 0 := by decide +kernel
theorem dz_d : ∀ b, b < 7 → ¬ b = 0 → ∀ a, a < 595 → Op.cmpValue (FP.dcmp (FP.ddiv (FP.i2d (nI a)) (FP.i2d (nI b))) (FP.ddiv (FP.i2d (nI a)) (FP.i2d (nI b)))) .l = nI 0 := by decide +kernel
section LAW1
variable {p : Program} {l : Launch} {e : Env} {R : Room} {s : State} {m : MethodId} {args : Array Value} {below : List Frame} {meth : Method} {c : Code} {H : Heap} {locs : List Loc} {cells slots : Nat} {Q : State → Prop}
variable {cc : ByteArray} {nL mc ms : Nat} {Ts : List Cond} {own : String} {D : va_G} {Z : Nat → Nat} {N0 : Nat} {g : T3} {ad : T2} {pc : Nat} {ls : Array Slot} {rest st0 : List Value}
theorem k_cf {a : Array Value} {post : UInt32 → T3 → Prop} {ad' : T2} (hr : va_Run p l e R s m args below meth c H locs cells slots mc ms (F0 m pc ls st0) rest (QF D Z N0 ad' post a) (AA N0)) (hS : va_S (AA N0) s.heap H locs)
    (kk : ∀ (r : UInt32) (g1 : T3) (H1 : Heap) (locs1 : List Loc), post r g1 → Wd D Z N0 g1 ad' H1 → va_S (AA N0) s.heap H1 locs1 → W p l e R s m args below meth c H1 locs1 (cells + mc) (slots + ms) Q (F0 m (pc + 3) ls (.float r :: rest))) : W p l e R s m args below meth c H locs cells slots Q (F0 m pc ls st0) :=
  va_callf hr hS (fun _ _ h => h) (fun _ h => h) (fun r u t H1 locs1 ht _ hp hB _ _ hS1 => kk r u H1 locs1 hp (by rw [← ht]; exact hB) hS1)
theorem k_cd {a : Array Value} {post : UInt64 → T3 → Prop} {ad' : T2} (hr : va_Run p l e R s m args below meth c H locs cells slots mc ms (F0 m pc ls st0) rest (QD D Z N0 ad' post a) (AA N0)) (hS : va_S (AA N0) s.heap H locs)
    (kk : ∀ (r : UInt64) (g1 : T3) (H1 : Heap) (locs1 : List Loc), post r g1 → Wd D Z N0 g1 ad' H1 → va_S (AA N0) s.heap H1 locs1 → W p l e R s m args below meth c H1 locs1 (cells + mc) (slots + ms) Q (F0 m (pc + 3) ls (.double r :: rest))) : W p l e R s m args below meth c H locs cells slots Q (F0 m pc ls st0) :=
  va_calld hr hS (fun _ _ h => h) (fun _ h => h) (fun r u t H1 locs1 ht _ hp hB _ _ hS1 => kk r u H1 locs1 hp (by rw [← ht]; exact hB) hS1)
theorem r_sld (M : Mx p m c cc nL s args Ts own D Z N0) {b L : Nat} {xs : Nat → Int32} (hX : va_X b L xs s s.heap) (hbl : b < s.heap.size) (hbA : ¬ AA N0 b) (hS : va_S (AA N0) s.heap H locs) {j : Nat} (hj : j < L) (hL : L < 2 ^ 31) (hdg : decode cc pc = .ok (.iaload, 1))
    (kk : W p l e R s m args below meth c H locs cells slots Q (F0 m (pc + 1) ls (.int (xs j) :: rest))) : W p l e R s m args below meth c H locs cells slots Q (F0 m pc ls (.int (nI j) :: .ref b :: rest)) := by
  obtain ⟨⟨hx, hb, hml, hown, hts⟩, hK, -, -⟩ := M
  refine va_sld hx hb hX hbl hbA hS (vp_in_nI hj hL) hdg ?_
  rw [nI_clamp (by omega)]
  exact kk
theorem r_lld (M : Mx p m c cc nL s args Ts own D Z N0) (hW : Wd D Z N0 g ad H) (hdg : decode cc pc = .ok (.laload, 1))
    (kk : W p l e R s m args below meth c H locs cells slots Q (F0 m (pc + 1) ls (.long (lN (g 40 0 0)) :: rest))) : W p l e R s m args below meth c H locs cells slots Q (F0 m pc ls (.int (nI 0) :: .ref (ad 40 0) :: rest)) := by
  obtain ⟨⟨hx, hb, hml, hown, hts⟩, hK, -, -⟩ := M
  have hl : lv g 40 0 := ⟨rfl, by decide, by decide⟩
  have hP := va_P1 (hW.1 40 0 hl).1
  refine va_lald (f := fun q => lN (g 40 0 q)) hx hb hK hP 0 4 rfl rfl (vp_in_nI (n := 0) (N := 1) (by decide) (by decide)) hdg ?_
  rw [nI_clamp (by decide)]
  exact kk
theorem r_dld (M : Mx p m c cc nL s args Ts own D Z N0) (hW : Wd D Z N0 g ad H) (hdg : decode cc pc = .ok (.daload, 1))
    (kk : W p l e R s m args below meth c H locs cells slots Q (F0 m (pc + 1) ls (.double (UInt64.ofNat (g 41 0 0)) :: rest))) : W p l e R s m args below meth c H locs cells slots Q (F0 m pc ls (.int (nI 0) :: .ref (ad 41 0) :: rest)) := by
  obtain ⟨⟨hx, hb, hml, hown, hts⟩, hK, -, -⟩ := M
  have hl : lv g 41 0 := ⟨rfl, by decide, by decide⟩
  have hP := va_P1 (hW.1 41 0 hl).1
  refine va_dald (f := fun q => UInt64.ofNat (g 41 0 q)) hx hb hK hP 0 5 rfl rfl (vp_in_nI (n := 0) (N := 1) (by decide) (by decide)) hdg ?_
  rw [nI_clamp (by decide)]
  exact kk
end LAW1
/-- the places of the law's locals between two calls -/
abbrev lvL (b : Nat) (ad : T2) (k : Nat) : List (Nat × Value) := [(5, .int (nI (5 * k))), (4, .ref (ad 41 0)), (3, .ref (ad 40 0)), (2, .ref (ad 20 0)), (1, .ref (ad 0 0)), (0, .ref b)]
/-- the end of a call's case: the loop goes on -/
def LN (p : Program) (l : Launch) (e : Env) (s : State) (m : MethodId) (b : Nat) (below : List Frame) (meth : Method) (c : Code) (D : va_G) (Z : Nat → Nat) (N0 : Nat) (Q : State → Prop) (k cells slots : Nat) : Prop :=
  ∀ (g : T3) (ad : T2) (H : Heap) (locs : List Loc) (ls : Array Slot), Rel g → Iv g → Kv g → Wd D Z N0 g ad H → va_S (AA N0) s.heap H locs → lv_has ls 9 (lvL b ad k) → W p l e room_1 s m #[Value.ref b] below meth c H locs (cells + 4) (slots + 40) Q (F0 m 1797 ls [])
