/-! WHAT IS MADE COMES INTO THE WORLD: new addresses, new live objects. -/
def ad2 (ad : T2) (k i q : Nat) : T2 := fun a b => if a = k ∧ b = i then q else ad a b
theorem ad2_s (ad : T2) (k i q : Nat) : ad2 ad k i q k i = q := if_pos ⟨rfl, rfl⟩
theorem ad2_n (ad : T2) (k i q : Nat) {a b : Nat} (h : ¬ (a = k ∧ b = i)) : ad2 ad k i q a b = ad a b := if_neg h
/-- addresses that no making changes -/
def AdS (ad ad' : T2) : Prop := ∀ a b, ¬ (a = 4 ∨ (10 ≤ a ∧ a ≤ 14)) → ad' a b = ad a b
theorem AdS.rf (ad : T2) : AdS ad ad := fun _ _ _ => rfl
theorem AdS.tr {ad ad1 ad9 : T2} (h : AdS ad ad1) (h' : AdS ad1 ad9) : AdS ad ad9 := fun a b c => (h' a b c).trans (h a b c)
theorem AdS.up {ad ad1 : T2} (h : AdS ad ad1) {k i q : Nat} (hk : k = 4 ∨ (10 ≤ k ∧ k ≤ 14)) : AdS ad (ad2 ad1 k i q) := fun a b c => by
  have e9 : ¬ (a = k ∧ b = i) := fun e => c (by rw [e.1]; exact hk)
  rw [ad2_n _ _ _ _ e9]
  exact h a b c
/-- what no list has yet is null -/
def Iv (g : T3) : Prop := (∀ L, L < 2 → g 3 L 3 = g 3 L 2) ∧ (∀ L q, L < 2 → g 3 L 2 ≤ q → g 4 L q = 0) ∧ ∀ i q, 2 ≤ q → g 11 i q = 0
theorem Iv.fr {g g1 : T3} (h : Iv g) (hf : Fr g g1) : Iv g1 := by
  refine ⟨fun L hL => ?_, fun L q hL hq => ?_, fun i q hq => ?_⟩
  · rw [hf.1 L 3 (by decide), hf.1 L 2 (by decide)]; exact h.1 L hL
  · rw [hf.1 L 2 (by decide)] at hq
    rw [hf.2.1]; exact h.2.1 L q hL hq
  · rw [hf.2.2]; exact h.2.2 i q hq
theorem lv_o {g g' : T3} {k i : Nat} (hk : ¬ (k = 4 ∨ (10 ≤ k ∧ k ≤ 14))) (h : lv g' k i) : lv g k i := by
  unfold lv at h ⊢
  split at h <;> first | exact h | exact (hk (by decide)).elim
theorem ct_ad {Z : Nat → Nat} {ad ad' : T2} {k i : Nat} {r : Nat → Nat} (h : AdS ad ad') (h4 : k = 3 → r 1 ≠ 0 → ad' 4 i = ad 4 i) (h10 : k = 4 → ∀ q, r q ≠ 0 → ad' (10 + 3 * i) q = ad (10 + 3 * i) q) (h11 : k = 10 → ad' 11 i = ad 11 i) (h12 : k = 11 → ∀ q, r q ≠ 0 → ad' 12 (2 * i + q) = ad 12 (2 * i + q)) (h14 : k = 13 → ad' 14 i = ad 14 i) : ct Z ad' k i r = ct Z ad k i r := by
  by_cases k3 : k = 3
  · subst k3
    have e : (if r 1 = 0 then Z 6 else ad' 4 i) = (if r 1 = 0 then Z 6 else ad 4 i) := by
      by_cases z : r 1 = 0
      · rw [if_pos z, if_pos z]
      · rw [if_neg z, if_neg z, h4 rfl z]
    show Sum.inr (2, [Value.int (nI (r 0)), .ref (if r 1 = 0 then Z 6 else ad' 4 i), .int (nI (r 2))]) = Sum.inr (2, [Value.int (nI (r 0)), .ref (if r 1 = 0 then Z 6 else ad 4 i), .int (nI (r 2))])
    rw [e]
  by_cases k4 : k = 4
  · subst k4
    have e : (fun q => if r q = 0 then none else some (ad' (10 + 3 * i) q)) = (fun q => if r q = 0 then none else some (ad (10 + 3 * i) q)) := by
      funext q
      by_cases z : r q = 0
      · rw [if_pos z, if_pos z]
      · rw [if_neg z, if_neg z, h10 rfl q z]
    show xR (Z 2) 10 (fun q => if r q = 0 then none else some (ad' (10 + 3 * i) q)) = xR (Z 2) 10 (fun q => if r q = 0 then none else some (ad (10 + 3 * i) q))
    rw [e]
  by_cases k11 : k = 11
  · subst k11
    have e : (fun q => if r q = 0 then none else some (ad' 12 (2 * i + q))) = (fun q => if r q = 0 then none else some (ad 12 (2 * i + q))) := by
      funext q
      by_cases z : r q = 0
      · rw [if_pos z, if_pos z]
      · rw [if_neg z, if_neg z, h12 rfl q z]
    show xR (Z 3) 2 (fun q => if r q = 0 then none else some (ad' 12 (2 * i + q))) = xR (Z 3) 2 (fun q => if r q = 0 then none else some (ad 12 (2 * i + q)))
    rw [e]
  by_cases k10 : k = 10
  · subst k10
    show Sum.inr (6, [Value.int (nI (r 0)), .ref (ad' 11 i), .int (nI (r 2)), .int (nI (r 3))]) = Sum.inr (6, [Value.int (nI (r 0)), .ref (ad 11 i), .int (nI (r 2)), .int (nI (r 3))])
    rw [h11 rfl]
  by_cases k13 : k = 13
  · subst k13
    show Sum.inr (5, [Value.int (nI (r 0)), .int (nI (r 1)), .ref (ad' 14 i)]) = Sum.inr (5, [Value.int (nI (r 0)), .int (nI (r 1)), .ref (ad 14 i)])
    rw [h14 rfl]
  have a1 := h 1 0 (by decide)
  have a2 := h 2 0 (by decide)
  have a30 := h 3 0 (by decide)
  have a31 := h 3 1 (by decide)
  have a50 := h 5 0 (by decide)
  have a51 := h 5 1 (by decide)
  have a6 := h 6 i (by decide)
  have a7 := h 7 i (by decide)
  have a8 := h 8 i (by decide)
  have a9 := h 9 i (by decide)
  have f21 := h 21 0 (by decide)
  have f22 := h 22 0 (by decide)
  have f23 := h 23 0 (by decide)
  have f24 := h 24 0 (by decide)
  have f25 := h 25 0 (by decide)
  have f26 := h 26 0 (by decide)
  have f27 := h 27 0 (by decide)
  have f28 := h 28 0 (by decide)
  have f29 := h 29 0 (by decide)
  have f30 := h 30 0 (by decide)
  have f31 := h 31 0 (by decide)
  have f32 := h 32 0 (by decide)
  have f33 := h 33 0 (by decide)
  have f34 := h 34 0 (by decide)
  have f35 := h 35 0 (by decide)
  have f36 := h 36 0 (by decide)
  have f37 := h 37 0 (by decide)
  have f38 := h 38 0 (by decide)
  have f39 := h 39 0 (by decide)
  unfold ct
  split <;> first | rfl | exact absurd rfl k3 | exact absurd rfl k4 | exact absurd rfl k11 | exact absurd rfl k10 | exact absurd rfl k13 | (simp only [a1, a2, a30, a31, a50, a51]; done) | (simp only [a6, a7, a8, a9]; done) | (simp only [f21, f22, f23, f24, f25, f26, f27, f28, f29, f30, f31, f32, f33, f34, f35, f36, f37, f38, f39]; done)
section ADOPT
variable {D : va_G} {Z : Nat → Nat} {N0 : Nat} {g g' : T3} {ad ad' : T2} {H H1 : Heap}
theorem Wd.kept2 (hW : Wd D Z N0 g ad H) (hq : ∀ k i, lv g k i → H1[ad k i]? = H[ad k i]?) : Wd D Z N0 g ad H1 :=
  ⟨fun k i h => ⟨(hW.1 k i h).1.kept (hq k i h), (hW.1 k i h).2⟩, hW.2⟩
theorem Wd.keep (hW : Wd D Z N0 g ad H) {k i : Nat} (hl : lv g k i) (he : H1[ad k i]? = H[ad k i]?) (ha : ad' k i = ad k i) (hc : ct Z ad' k i (g' k i) = ct Z ad k i (g k i)) : va_at D vwCl (ad' k i, ct Z ad' k i (g' k i)) H1 := by
  rw [hc, ha]
  exact (hW.1 k i hl).1.kept he
def RA (g : T3) (ad : T2) (N0 : Nat) : Nat → Prop := fun x => N0 ≤ x ∧ ∀ k i, lv g k i → ad k i ≠ x
theorem Wd.to (hW : Wd D Z N0 g ad H) (nw : Nat → Nat → Prop) (h1 : ∀ k i, lv g' k i → ¬ nw k i → lv g k i ∧ ad' k i = ad k i ∧ va_at D vwCl (ad' k i, ct Z ad' k i (g' k i)) H1)
    (h2 : ∀ k i, lv g' k i → nw k i → va_at D vwCl (ad' k i, ct Z ad' k i (g' k i)) H1 ∧ RA g ad N0 (ad' k i)) (h3 : ∀ k i k' i', nw k i → nw k' i' → ad' k i = ad' k' i' → k = k' ∧ i = i') (ho : okk g') (hi : ivv g') : Wd D Z N0 g' ad' H1 := by
  refine ⟨fun k i h => ?_, fun k i k' i' a b e => ?_, ho, hi⟩
  · by_cases n : nw k i
    · exact ⟨(h2 k i h n).1, (h2 k i h n).2.1⟩
    · obtain ⟨q1, q2, q3⟩ := h1 k i h n
      exact ⟨q3, by rw [q2]; exact (hW.1 k i q1).2⟩
  · by_cases n : nw k i
    · by_cases n' : nw k' i'
      · exact h3 k i k' i' n n' e
      · obtain ⟨q1, q2, -⟩ := h1 k' i' b n'
        exact absurd (q2.symm.trans e.symm) ((h2 k i a n).2.2 k' i' q1)
    · obtain ⟨q1, q2, -⟩ := h1 k i a n
      by_cases n' : nw k' i'
      · exact absurd (q2.symm.trans e) ((h2 k' i' b n').2.2 k i q1)
      · obtain ⟨p1, p2, -⟩ := h1 k' i' b n'
        exact hW.2.1 k i k' i' q1 p1 (q2.symm.trans (e.trans p2))
/-- a stage, made: the last one, and not yet in the list -/
def stG (g : T3) (n r : Nat) : T3 := fun k i j => if k = 10 ∧ i = n then (if j = 0 then r else 0) else if k = 11 ∧ i = n then 0 else if k = 3 ∧ i = 0 ∧ j = 3 then n + 1 else g k i j
theorem stG_o {g : T3} {n r k i j : Nat} (h : ¬ ((k = 10 ∨ k = 11) ∧ i = n)) (h' : ¬ (k = 3 ∧ i = 0 ∧ j = 3)) : stG g n r k i j = g k i j := by
  unfold stG
  rw [if_neg (fun e => h ⟨Or.inl e.1, e.2⟩), if_neg (fun e => h ⟨Or.inr e.1, e.2⟩), if_neg h']
theorem Wd.addS (hW : Wd D Z N0 g ad H) {n r q q1 : Nat} (hn : g 3 0 3 = n) (hn8 : n < 8) (h4 : g 4 0 n = 0) (hr : r ≤ 2) (hP : va_P D vwCl [(q, .inr (6, [.int (nI r), .ref q1, .int (nI 0), .int (nI 0)])), (q1, .inl (Z 3, 2, .inr (.inr (.inr (.inr (fun _ => none))))))] H) (hD : va_D (RA g ad N0) [(q, .inr (6, [.int (nI r), .ref q1, .int (nI 0), .int (nI 0)])), (q1, .inl (Z 3, 2, .inr (.inr (.inr (.inr (fun _ => none))))))]) :
    Wd D Z N0 (stG g n r) (ad2 (ad2 ad 10 n q) 11 n q1) H := by
  have hA : AdS ad (ad2 (ad2 ad 10 n q) 11 n q1) := ((AdS.rf ad).up (by decide)).up (by decide)
  have e1 : ∀ a b, ¬ ((a = 10 ∨ a = 11) ∧ b = n) → ad2 (ad2 ad 10 n q) 11 n q1 a b = ad a b := fun a b h => by rw [ad2_n _ _ _ _ (fun e => h ⟨Or.inr e.1, e.2⟩), ad2_n _ _ _ _ (fun e => h ⟨Or.inl e.1, e.2⟩)]
  have x10 : ad2 (ad2 ad 10 n q) 11 n q1 10 n = q := by rw [ad2_n _ _ _ _ (by omega), ad2_s]
  have x11 : ad2 (ad2 ad 10 n q) 11 n q1 11 n = q1 := ad2_s _ _ _ _
  have s3 : stG g n r 3 0 3 = n + 1 := by unfold stG; rw [if_neg (by omega), if_neg (by omega), if_pos ⟨rfl, rfl, rfl⟩]
  refine hW.to (fun k i => (k = 10 ∨ k = 11) ∧ i = n) (fun k i hl hw => ?_) (fun k i hl hw => ?_) (fun k i k' i' a b e => ?_) (fun k i j => ?_) (fun L hL => ?_)
  · have hlv : lv g k i := by
      by_cases hk : k = 4 ∨ (10 ≤ k ∧ k ≤ 14)
      · rcases (show k = 4 ∨ k = 10 ∨ k = 11 ∨ k = 12 ∨ k = 13 ∨ k = 14 by omega) with rfl | rfl | rfl | rfl | rfl | rfl
        · refine ⟨hl.1, ?_⟩
          have := hl.2
          rw [stG_o (by omega) (by omega)] at this
          exact this
        · have : i < stG g n r 3 0 3 := hl
          show i < g 3 0 3
          omega
        · have : i < stG g n r 3 0 3 := hl
          show i < g 3 0 3
          omega
        · obtain ⟨b1, b2⟩ : i / 2 < stG g n r 3 0 3 ∧ stG g n r 11 (i / 2) (i % 2) ≠ 0 := hl
          have b3 : ¬ i / 2 = n := fun e => b2 (by unfold stG; rw [if_neg (by omega), if_pos ⟨rfl, e⟩])
          rw [stG_o (by omega) (by omega)] at b2
          exact ⟨by omega, b2⟩
        · have : i < stG g n r 3 1 3 := hl
          rw [stG_o (by omega) (by omega)] at this
          exact this
        · have : i < stG g n r 3 1 3 := hl
          rw [stG_o (by omega) (by omega)] at this
          exact this
      · exact lv_o hk hl
    have hrow : ∀ j, ¬ (k = 3 ∧ i = 0 ∧ j = 3) → stG g n r k i j = g k i j := fun j hj => stG_o hw hj
    refine ⟨hlv, e1 k i hw, hW.keep hlv rfl (e1 k i hw) ?_⟩
    by_cases k3 : k = 3
    · subst k3
      refine Eq.trans (ct_ad hA (fun _ _ => e1 4 i (by omega)) (by omega) (by omega) (by omega) (by omega)) ?_
      show Sum.inr (2, [Value.int (nI (stG g n r 3 i 0)), .ref (if stG g n r 3 i 1 = 0 then Z 6 else ad 4 i), .int (nI (stG g n r 3 i 2))]) = Sum.inr (2, [Value.int (nI (g 3 i 0)), .ref (if g 3 i 1 = 0 then Z 6 else ad 4 i), .int (nI (g 3 i 2))])
      rw [hrow 0 (by omega), hrow 1 (by omega), hrow 2 (by omega)]
    · have er : stG g n r k i = g k i := funext fun j => hrow j (fun e => k3 e.1)
      rw [er]
      refine ct_ad hA (fun e => absurd e k3) (fun e x hx => e1 _ _ (fun ⟨z1, z2⟩ => ?_)) (fun e => e1 _ _ (fun ⟨_, z2⟩ => hw ⟨Or.inl e, z2⟩)) (fun e x hx => e1 _ _ (by omega)) (fun e => e1 _ _ (by omega))
      subst e
      have i2 : i < 2 := hlv.1
      obtain rfl : i = 0 := by omega
      exact hx (by rw [z2]; exact h4)
  · obtain ⟨hk, rfl⟩ := hw
    rcases hk with rfl | rfl
    · refine ⟨?_, by rw [x10]; exact hD.2 0 _ rfl⟩
      have h := hP 0 _ rfl
      rw [x10]
      show va_at D vwCl (q, .inr (6, [.int (nI (stG g i r 10 i 0)), .ref (ad2 (ad2 ad 10 i q) 11 i q1 11 i), .int (nI (stG g i r 10 i 2)), .int (nI (stG g i r 10 i 3))])) H
      have f0 : stG g i r 10 i 0 = r := by unfold stG; rw [if_pos ⟨rfl, rfl⟩, if_pos rfl]
      have f2 : stG g i r 10 i 2 = 0 := by unfold stG; rw [if_pos ⟨rfl, rfl⟩, if_neg (by decide)]
      have f3 : stG g i r 10 i 3 = 0 := by unfold stG; rw [if_pos ⟨rfl, rfl⟩, if_neg (by decide)]
      rw [x11, f0, f2, f3]
      exact h
    · refine ⟨?_, by rw [x11]; exact hD.2 1 _ rfl⟩
      have h := hP 1 _ rfl
      rw [x11]
      have er : (fun x => if stG g i r 11 i x = 0 then none else some (ad2 (ad2 ad 10 i q) 11 i q1 12 (2 * i + x))) = fun _ => none := funext fun x => if_pos (by unfold stG; rw [if_neg (by omega), if_pos ⟨rfl, rfl⟩])
      show va_at D vwCl (q1, xR (Z 3) 2 (fun x => if stG g i r 11 i x = 0 then none else some (ad2 (ad2 ad 10 i q) 11 i q1 12 (2 * i + x)))) H
      rw [er]
      exact h
  · obtain ⟨a1, rfl⟩ := a
    obtain ⟨b1, rfl⟩ := b
    refine ⟨?_, rfl⟩
    have hne : q ≠ q1 := fun z => absurd (hD.1 0 1 _ _ rfl rfl z) (by decide)
    rcases a1 with rfl | rfl <;> rcases b1 with rfl | rfl
    · rfl
    · rw [x10, x11] at e; exact absurd e hne
    · rw [x10, x11] at e; exact absurd e.symm hne
    · rfl
  · by_cases c1 : k = 10 ∧ i = n
    · unfold stG
      rw [if_pos c1, c1.1]
      by_cases c2 : j = 0
      · rw [if_pos c2, c2]; exact Or.inr hr
      · rw [if_neg c2]; exact Or.inr (Nat.zero_le _)
    · by_cases c2 : k = 11 ∧ i = n
      · unfold stG; rw [if_neg c1, if_pos c2]; exact Or.inr (Nat.zero_le _)
      · by_cases c3 : k = 3 ∧ i = 0 ∧ j = 3
        · unfold stG; rw [if_neg c1, if_neg c2, if_pos c3, c3.1, c3.2.2]; exact Or.inr (show n + 1 ≤ 8 by omega)
        · rw [stG_o (by omega) c3]; exact hW.2.2.1 k i j
  · obtain ⟨v1, v2, v3⟩ := hW.2.2.2 L hL
    rw [stG_o (k := 3) (j := 2) (by omega) (by omega), stG_o (k := 3) (j := 1) (by omega) (by omega)]
    refine ⟨?_, v2, fun j hj => by rw [stG_o (by omega) (by omega)]; exact v3 j hj⟩
    by_cases z : L = 0
    · subst z; omega
    · rw [stG_o (by omega) (by omega)]; exact v1
/-- a secret, made: the last one, and not yet in the list -/
def scG (g : T3) (n r p : Nat) : T3 := fun k i j => if k = 13 ∧ i = n then (if j = 0 then r else if j = 1 then p else 0) else if k = 14 ∧ i = n then 0 else if k = 3 ∧ i = 1 ∧ j = 3 then n + 1 else g k i j
theorem scG_o {g : T3} {n r p k i j : Nat} (h : ¬ ((k = 13 ∨ k = 14) ∧ i = n)) (h' : ¬ (k = 3 ∧ i = 1 ∧ j = 3)) : scG g n r p k i j = g k i j := by
  unfold scG
  rw [if_neg (fun e => h ⟨Or.inl e.1, e.2⟩), if_neg (fun e => h ⟨Or.inr e.1, e.2⟩), if_neg h']
theorem Wd.addC (hW : Wd D Z N0 g ad H) {n r p q q1 : Nat} (hn : g 3 1 3 = n) (hn8 : n < 8) (h4 : g 4 1 n = 0) (hr : r ≤ 7) (hp5 : p ≤ 5) (hP : va_P D vwCl [(q, .inr (5, [.int (nI r), .int (nI p), .ref q1])), (q1, .inl (Z 0, 3, .inl fun _ => nI 0))] H) (hD : va_D (RA g ad N0) [(q, .inr (5, [.int (nI r), .int (nI p), .ref q1])), (q1, .inl (Z 0, 3, .inl fun _ => nI 0))]) :
    Wd D Z N0 (scG g n r p) (ad2 (ad2 ad 13 n q) 14 n q1) H := by
  have hA : AdS ad (ad2 (ad2 ad 13 n q) 14 n q1) := ((AdS.rf ad).up (by decide)).up (by decide)
  have e1 : ∀ a b, ¬ ((a = 13 ∨ a = 14) ∧ b = n) → ad2 (ad2 ad 13 n q) 14 n q1 a b = ad a b := fun a b h => by rw [ad2_n _ _ _ _ (fun e => h ⟨Or.inr e.1, e.2⟩), ad2_n _ _ _ _ (fun e => h ⟨Or.inl e.1, e.2⟩)]
  have x13 : ad2 (ad2 ad 13 n q) 14 n q1 13 n = q := by rw [ad2_n _ _ _ _ (by omega), ad2_s]
  have x14 : ad2 (ad2 ad 13 n q) 14 n q1 14 n = q1 := ad2_s _ _ _ _
  have s3 : scG g n r p 3 1 3 = n + 1 := by unfold scG; rw [if_neg (by omega), if_neg (by omega), if_pos ⟨rfl, rfl, rfl⟩]
  refine hW.to (fun k i => (k = 13 ∨ k = 14) ∧ i = n) (fun k i hl hw => ?_) (fun k i hl hw => ?_) (fun k i k' i' a b e => ?_) (fun k i j => ?_) (fun L hL => ?_)
  · have hlv : lv g k i := by
      by_cases hk : k = 4 ∨ (10 ≤ k ∧ k ≤ 14)
      · rcases (show k = 4 ∨ k = 10 ∨ k = 11 ∨ k = 12 ∨ k = 13 ∨ k = 14 by omega) with rfl | rfl | rfl | rfl | rfl | rfl
        · refine ⟨hl.1, ?_⟩
          have := hl.2
          rw [scG_o (by omega) (by omega)] at this
          exact this
        · have : i < scG g n r p 3 0 3 := hl
          rw [scG_o (by omega) (by omega)] at this
          exact this
        · have : i < scG g n r p 3 0 3 := hl
          rw [scG_o (by omega) (by omega)] at this
          exact this
        · obtain ⟨b1, b2⟩ : i / 2 < scG g n r p 3 0 3 ∧ scG g n r p 11 (i / 2) (i % 2) ≠ 0 := hl
          rw [scG_o (by omega) (by omega)] at b1 b2
          exact ⟨b1, b2⟩
        · have : i < scG g n r p 3 1 3 := hl
          show i < g 3 1 3
          omega
        · have : i < scG g n r p 3 1 3 := hl
          show i < g 3 1 3
          omega
      · exact lv_o hk hl
    have hrow : ∀ j, ¬ (k = 3 ∧ i = 1 ∧ j = 3) → scG g n r p k i j = g k i j := fun j hj => scG_o hw hj
    refine ⟨hlv, e1 k i hw, hW.keep hlv rfl (e1 k i hw) ?_⟩
    by_cases k3 : k = 3
    · subst k3
      refine Eq.trans (ct_ad hA (fun _ _ => e1 4 i (by omega)) (by omega) (by omega) (by omega) (by omega)) ?_
      show Sum.inr (2, [Value.int (nI (scG g n r p 3 i 0)), .ref (if scG g n r p 3 i 1 = 0 then Z 6 else ad 4 i), .int (nI (scG g n r p 3 i 2))]) = Sum.inr (2, [Value.int (nI (g 3 i 0)), .ref (if g 3 i 1 = 0 then Z 6 else ad 4 i), .int (nI (g 3 i 2))])
      rw [hrow 0 (by omega), hrow 1 (by omega), hrow 2 (by omega)]
    · have er : scG g n r p k i = g k i := funext fun j => hrow j (fun e => k3 e.1)
      rw [er]
      refine ct_ad hA (fun e => absurd e k3) (fun e x hx => e1 _ _ (fun ⟨z1, z2⟩ => ?_)) (fun e => e1 _ _ (by omega)) (fun e x hx => e1 _ _ (by omega)) (fun e => e1 _ _ (fun ⟨_, z2⟩ => hw ⟨Or.inl e, z2⟩))
      subst e
      have i2 : i < 2 := hlv.1
      obtain rfl : i = 1 := by omega
      exact hx (by rw [z2]; exact h4)
  · obtain ⟨hk, rfl⟩ := hw
    rcases hk with rfl | rfl
    · refine ⟨?_, by rw [x13]; exact hD.2 0 _ rfl⟩
      have h := hP 0 _ rfl
      rw [x13]
      show va_at D vwCl (q, .inr (5, [.int (nI (scG g i r p 13 i 0)), .int (nI (scG g i r p 13 i 1)), .ref (ad2 (ad2 ad 13 i q) 14 i q1 14 i)])) H
      have f0 : scG g i r p 13 i 0 = r := by unfold scG; rw [if_pos ⟨rfl, rfl⟩, if_pos rfl]
      have f1 : scG g i r p 13 i 1 = p := by unfold scG; rw [if_pos ⟨rfl, rfl⟩, if_neg (by decide), if_pos rfl]
      rw [x14, f0, f1]
      exact h
    · refine ⟨?_, by rw [x14]; exact hD.2 1 _ rfl⟩
      have h := hP 1 _ rfl
      rw [x14]
      have er : scG g i r p 14 i = fun _ => 0 := funext fun x => by unfold scG; rw [if_neg (by omega), if_pos ⟨rfl, rfl⟩]
      show va_at D vwCl (q1, xI Z 3 (scG g i r p 14 i)) H
      rw [er]
      exact h
  · obtain ⟨a1, rfl⟩ := a
    obtain ⟨b1, rfl⟩ := b
    refine ⟨?_, rfl⟩
    have hne : q ≠ q1 := fun z => absurd (hD.1 0 1 _ _ rfl rfl z) (by decide)
    rcases a1 with rfl | rfl <;> rcases b1 with rfl | rfl
    · rfl
    · rw [x13, x14] at e; exact absurd e hne
    · rw [x13, x14] at e; exact absurd e.symm hne
    · rfl
  · by_cases c1 : k = 13 ∧ i = n
    · unfold scG
      rw [if_pos c1, c1.1]
      by_cases c2 : j = 0
      · rw [if_pos c2, c2]; exact Or.inr hr
      · rw [if_neg c2]
        by_cases c3 : j = 1
        · rw [if_pos c3, c3]; exact Or.inr hp5
        · rw [if_neg c3]; exact Or.inr (Nat.zero_le _)
    · by_cases c2 : k = 14 ∧ i = n
      · unfold scG; rw [if_neg c1, if_pos c2]; exact Or.inr (Nat.zero_le _)
      · by_cases c3 : k = 3 ∧ i = 1 ∧ j = 3
        · unfold scG; rw [if_neg c1, if_neg c2, if_pos c3, c3.1, c3.2.2]; exact Or.inr (show n + 1 ≤ 8 by omega)
        · rw [scG_o (by omega) c3]; exact hW.2.2.1 k i j
  · obtain ⟨v1, v2, v3⟩ := hW.2.2.2 L hL
    rw [scG_o (k := 3) (j := 2) (by omega) (by omega), scG_o (k := 3) (j := 1) (by omega) (by omega)]
    refine ⟨?_, v2, fun j hj => by rw [scG_o (by omega) (by omega)]; exact v3 j hj⟩
    by_cases z : L = 1
    · subst z; omega
    · rw [scG_o (by omega) (by omega)]; exact v1
end ADOPT
