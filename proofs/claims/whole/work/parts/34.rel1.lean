/-! THE CLASS AND THE MODEL SIDE BY SIDE: a start. -/
def Sl (g : T3) (i s : Nat) : Prop := (g 11 i s = 0 ↔ g 27 0 (2 * i + s) = 0) ∧ (¬ g 11 i s = 0 → g 12 (2 * i + s) 0 = g 27 0 (2 * i + s) ∧ g 12 (2 * i + s) 1 = g 28 0 (2 * i + s) ∧ g 12 (2 * i + s) 2 = g 29 0 (2 * i + s) ∧ g 12 (2 * i + s) 3 = g 22 0 (2 * i + s) ∧ 1 ≤ g 27 0 (2 * i + s) ∧ g 27 0 (2 * i + s) ≤ 9)
def RB (g : T3) : Prop := (∀ j, 1 ≤ j → j ≤ 9 → g 1 0 j = g 21 0 j) ∧ g 3 0 2 = g 20 0 21 ∧ g 3 0 2 ≤ 6 ∧ ∀ i, i < g 3 0 2 → g 10 i 0 = g 24 0 i ∧ g 10 i 2 = g 25 0 i ∧ g 10 i 3 = g 26 0 i ∧ g 24 0 i ≤ 2 ∧ g 25 0 i ≤ 1 ∧ ∀ s, s < 2 → Sl g i s
def CF (g gc : T3) : Prop := ∀ k i j, ¬ (5 ≤ k ∧ k ≤ 9) → gc k i j = g k i j
def MF (g gm : T3) : Prop := ∀ k i j, ¬ (k < 20 ∨ 34 ≤ k) → ¬ (k = 20 ∧ (j = 20 ∨ j = 26 ∨ j = 27 ∨ j = 28)) → gm k i j = g k i j
theorem CF.rf (g : T3) : CF g g := fun _ _ _ _ => rfl
theorem MF.rf (g : T3) : MF g g := fun _ _ _ _ _ => rfl
theorem CF.up {g gc : T3} (h : CF g gc) {k i j v : Nat} (hk : 5 ≤ k ∧ k ≤ 9) : CF g (up gc k i j v) := fun a b q hq => by
  rw [up_at, if_neg (by rintro ⟨rfl, -, -⟩; exact hq hk)]
  exact h a b q hq
theorem MF.up {g gm : T3} (h : MF g gm) {k i j v : Nat} (hk : (k < 20 ∨ 34 ≤ k) ∨ (k = 20 ∧ (j = 20 ∨ j = 26 ∨ j = 27 ∨ j = 28))) : MF g (up gm k i j v) := fun a b q h1 h2 => by
  rw [up_at, if_neg (by rintro ⟨rfl, -, rfl⟩; exact hk.elim h1 h2)]
  exact h a b q h1 h2
theorem jg_eq {g gc gm : T3} (hR : RB g) (hc : CF g gc) (hm : MF g gm) {i s : Nat} (hi : i < g 3 0 2) (hs : s < 2) : jg gc i s = mRe gm i s := by
  obtain ⟨h1, -, -, h4⟩ := hR
  obtain ⟨-, -, hct, -, -, hsl⟩ := h4 i hi
  obtain ⟨hz, hn⟩ := hsl s hs
  have c11 := hc 11 i s (by decide)
  have c12 := fun j => hc 12 (2 * i + s) j (by decide)
  have c1 := fun j => hc 1 0 j (by decide)
  have c10 := hc 10 i 3 (by decide)
  have m27 := hm 27 0 (2 * i + s) (by decide) (by omega)
  have m28 := hm 28 0 (2 * i + s) (by decide) (by omega)
  have m22 := hm 22 0 (2 * i + s) (by decide) (by omega)
  have m21 := fun j => hm 21 0 j (by decide) (by omega)
  have m26 := hm 26 0 i (by decide) (by omega)
  unfold jg mRe
  rw [c11, c12, c12, c12, c1, c10, m27, m28, m22, m21, m26]
  by_cases h : g 11 i s = 0
  · rw [if_pos h, if_pos (hz.mp h)]
  · obtain ⟨n0, n1, -, n3, n4, n5⟩ := hn h
    rw [if_neg h, if_neg (fun h9 => h (hz.mpr h9)), n0, n1, n3, h1 _ n4 n5, hct]
theorem adm_eq {g : T3} {p r q : Nat} (h : g 5 p 2 < 12) : adm g p r q = up (up (up g 6 p r ((31 * g 6 p r + q + 1) % 9973)) 7 p (g 5 p 2) (1000 * r + q)) 5 p 2 (g 5 p 2 + 1) := by
  show (if 12 ≤ g 5 p 2 then _ else _) = _
  rw [if_neg (by omega)]
  rfl
/-- the log and the registers agree -/
def Tg (p : Nat) (gc gm : T3) : Prop := gc 5 p 2 = gm 20 0 26 ∧ (∀ q, q < gm 20 0 26 → gc 7 p q = gm 35 0 q) ∧ ∀ q, q < 3 → gc 6 p q = gm 36 0 q
/-- the first k stages ran alike -/
def Ug (p : Nat) (gc gm : T3) (k : Nat) : Prop := gc 5 p 5 = k ∧ (∀ q, q < k → gc 8 p q = gm 34 0 q ∧ gc 9 p q = gm 28 0 (2 * q + gm 34 0 q)) ∧ gc 5 p 6 = gm 20 0 28
theorem Tg.adm {p : Nat} {gc gm : T3} (h : Tg p gc gm) (he : gc 5 p 2 < 12) {i s : Nat} (hr : gm 24 0 i < 3) : Tg p (adm gc p (gm 24 0 i) (gm 29 0 (2 * i + s))) (mMe gm i s) := by
  obtain ⟨h1, h2, h3⟩ := h
  rw [adm_eq he]
  have e26 : mMe gm i s 20 0 26 = gm 20 0 26 + 1 := rfl
  have e35 : ∀ q, mMe gm i s 35 0 q = if q = gm 20 0 26 then 1000 * gm 24 0 i + gm 29 0 (2 * i + s) else gm 35 0 q := fun q => by
    show up gm 35 0 (gm 20 0 26) (1000 * gm 24 0 i + gm 29 0 (2 * i + s)) 35 0 q = _
    rw [up_at]; simp
  have e36 : ∀ q, mMe gm i s 36 0 q = if q = gm 24 0 i then (31 * gm 36 0 (gm 24 0 i) + gm 29 0 (2 * i + s) + 1) % 9973 else gm 36 0 q := fun q => by
    show up _ 36 0 (gm 24 0 i) ((31 * gm 36 0 (gm 24 0 i) + gm 29 0 (2 * i + s) + 1) % 9973) 36 0 q = _
    rw [up_at]; simp; rfl
  refine ⟨?_, fun q hq => ?_, fun q hq => ?_⟩
  · rw [e26, ← h1, up_at, if_pos ⟨rfl, rfl, rfl⟩]
  · rw [e26] at hq
    rw [e35, ← h1]
    show up (up gc 6 p _ _) 7 p (gc 5 p 2) _ 7 p q = _
    rw [up_at]
    by_cases h9 : q = gc 5 p 2
    · rw [if_pos ⟨rfl, rfl, h9⟩, if_pos h9]
    · rw [if_neg (fun h => h9 h.2.2), if_neg h9]
      exact h2 q (by omega)
  · rw [e36]
    show up gc 6 p (gm 24 0 i) _ 6 p q = _
    rw [up_at]
    by_cases h9 : q = gm 24 0 i
    · rw [if_pos ⟨rfl, rfl, h9⟩, if_pos h9, h3 _ hr]
    · rw [if_neg (fun h => h9 h.2.2), if_neg h9]
      exact h3 q hq
theorem CF.adm {g gc : T3} (h : CF g gc) {p r q : Nat} (he : gc 5 p 2 < 12) : CF g (adm gc p r q) := by
  rw [adm_eq he]
  exact ((h.up (by decide)).up (by decide)).up (by decide)
theorem MF.me {g gm : T3} (h : MF g gm) (i s : Nat) : MF g (mMe gm i s) :=
  ((h.up (k := 35) (j := gm 20 0 26) (Or.inl (by decide))).up (k := 20) (j := 26) (Or.inr ⟨rfl, Or.inr (Or.inl rfl)⟩)).up (k := 36) (Or.inl (by decide))
theorem Ug.adm {p k : Nat} {gc gm : T3} (h : Ug p gc gm k) (he : gc 5 p 2 < 12) {r q i s : Nat} : Ug p (adm gc p r q) (mMe gm i s) k := by
  rw [adm_eq he]
  obtain ⟨h1, h2, h3⟩ := h
  refine ⟨?_, fun q hq => ⟨(h2 q hq).1, (h2 q hq).2⟩, ?_⟩
  · rw [up_at, if_neg (fun h => absurd h.2.2 (by decide))]; exact h1
  · rw [up_at, if_neg (fun h => absurd h.2.2 (by decide))]; exact h3
theorem adm_52 {g : T3} {p r q : Nat} (he : g 5 p 2 < 12) : adm g p r q 5 p 2 = g 5 p 2 + 1 := by
  rw [adm_eq he, up_at, if_pos ⟨rfl, rfl, rfl⟩]
theorem adr0_eq {g : T3} {p s v k : Nat} (h : g 5 p 5 = k) (hk : k < 6) : adr0 g p s v = up (up (up g 8 p k s) 9 p k v) 5 p 5 (k + 1) := by
  subst h
  show (if 6 ≤ g 5 p 5 then _ else _) = _
  rw [if_neg (by omega)]
  rfl
def Vg (p : Nat) (gc gm : T3) (k f : Nat) : Prop := gc 5 p 5 = k ∧ (∀ q, q < k → gc 8 p q = gm 34 0 q ∧ gc 9 p q = gm 28 0 (2 * q + gm 34 0 q)) ∧ gc 5 p 6 = gm 20 0 28 + f
theorem Ug.run {p k s v f : Nat} {gc gm : T3} (h : Ug p gc gm k) (hk : k < 6) (hv : v = gm 28 0 (2 * k + s)) (hf : f ≤ 1) : Vg p (adr gc p s v f) (up gm 34 0 k s) (k + 1) f := by
  obtain ⟨h1, h2, h3⟩ := h
  have e34 : ∀ q, up gm 34 0 k s 34 0 q = if q = k then s else gm 34 0 q := fun q => by rw [up_at]; simp
  have e28 : ∀ q, up gm 34 0 k s 28 0 q = gm 28 0 q := fun q => rfl
  have e20 : up gm 34 0 k s 20 0 28 = gm 20 0 28 := rfl
  have hA : Vg p (adr0 gc p s v) (up gm 34 0 k s) (k + 1) 0 := by
    rw [adr0_eq h1 hk]
    refine ⟨by rw [up_at, if_pos ⟨rfl, rfl, rfl⟩], fun q hq => ?_, by rw [up_at, if_neg (fun h => absurd h.2.2 (by decide)), e20]; exact h3⟩
    rw [e34, e28]
    have a8 : up (up (up gc 8 p k s) 9 p k v) 5 p 5 (k + 1) 8 p q = if q = k then s else gc 8 p q := by
      show up gc 8 p k s 8 p q = _
      rw [up_at]; simp
    have a9 : up (up (up gc 8 p k s) 9 p k v) 5 p 5 (k + 1) 9 p q = if q = k then v else gc 9 p q := by
      show up (up gc 8 p k s) 9 p k v 9 p q = _
      rw [up_at]; simp; rfl
    rw [a8, a9]
    by_cases h9 : q = k
    · rw [if_pos h9, if_pos h9, if_pos h9, hv, h9]; exact ⟨rfl, rfl⟩
    · rw [if_neg h9, if_neg h9, if_neg h9]; exact h2 q (by omega)
  unfold adr
  by_cases hf0 : f = 0
  · rw [if_pos hf0, hf0]; exact hA
  · obtain ⟨a1, a2, a3⟩ := hA
    rw [if_neg hf0, show f = 1 by omega]
    refine ⟨by rw [up_at, if_neg (fun h => absurd h.2.2 (by decide))]; exact a1, fun q hq => a2 q hq, ?_⟩
    rw [up_at, if_pos ⟨rfl, rfl, rfl⟩, a3]
