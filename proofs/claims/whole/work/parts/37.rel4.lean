/-! THE RELATION is kept by what it does not read. -/
def Eq9 (g g' : T3) : Prop := ∀ k i j, k < 40 → ¬ (5 ≤ k ∧ k ≤ 9 ∧ ¬ i = 0) → ¬ (34 ≤ k ∧ k ≤ 36) → ¬ (k = 20 ∧ (j = 20 ∨ j = 26 ∨ j = 27 ∨ j = 28)) → g' k i j = g k i j
theorem Eq9.rf (g : T3) : Eq9 g g := fun _ _ _ _ _ _ _ => rfl
theorem Eq9_tr {g g1 g2 : T3} (h : Eq9 g g1) (h' : Eq9 g1 g2) : Eq9 g g2 := fun k i j a b c d => (h' k i j a b c d).trans (h k i j a b c d)
theorem Eq9_up {g g1 : T3} (h : Eq9 g g1) {k i j v : Nat} (hk : 40 ≤ k ∨ (5 ≤ k ∧ k ≤ 9 ∧ ¬ i = 0) ∨ (34 ≤ k ∧ k ≤ 36) ∨ (k = 20 ∧ (j = 20 ∨ j = 26 ∨ j = 27 ∨ j = 28))) : Eq9 g (up g1 k i j v) := fun a b q h1 h2 h3 h4 => by
  rw [up_at, if_neg (by rintro ⟨rfl, rfl, rfl⟩; exact hk.elim (fun h => by omega) (fun h => h.elim h2 (fun h => h.elim h3 h4)))]
  exact h a b q h1 h2 h3 h4
theorem Rel_cong {g g' : T3} (h : Rel g) (E : Eq9 g g') : Rel g' := by
  have a0 : ∀ j, g' 0 0 j = g 0 0 j := fun j => E 0 0 j (by decide) (by omega) (by omega) (by omega)
  have a1 : ∀ j, g' 1 0 j = g 1 0 j := fun j => E 1 0 j (by decide) (by omega) (by omega) (by omega)
  have a2 : ∀ j, g' 2 0 j = g 2 0 j := fun j => E 2 0 j (by decide) (by omega) (by omega) (by omega)
  have a3 : ∀ i j, g' 3 i j = g 3 i j := fun i j => E 3 i j (by decide) (by omega) (by omega) (by omega)
  have a5 : ∀ j, g' 5 0 j = g 5 0 j := fun j => E 5 0 j (by decide) (by omega) (by omega) (by omega)
  have a6 : ∀ j, g' 6 0 j = g 6 0 j := fun j => E 6 0 j (by decide) (by omega) (by omega) (by omega)
  have a7 : ∀ j, g' 7 0 j = g 7 0 j := fun j => E 7 0 j (by decide) (by omega) (by omega) (by omega)
  have a8 : ∀ j, g' 8 0 j = g 8 0 j := fun j => E 8 0 j (by decide) (by omega) (by omega) (by omega)
  have a9 : ∀ j, g' 9 0 j = g 9 0 j := fun j => E 9 0 j (by decide) (by omega) (by omega) (by omega)
  have a10 : ∀ i j, g' 10 i j = g 10 i j := fun i j => E 10 i j (by decide) (by omega) (by omega) (by omega)
  have a11 : ∀ i j, g' 11 i j = g 11 i j := fun i j => E 11 i j (by decide) (by omega) (by omega) (by omega)
  have a12 : ∀ i j, g' 12 i j = g 12 i j := fun i j => E 12 i j (by decide) (by omega) (by omega) (by omega)
  have a13 : ∀ i j, g' 13 i j = g 13 i j := fun i j => E 13 i j (by decide) (by omega) (by omega) (by omega)
  have a14 : ∀ i j, g' 14 i j = g 14 i j := fun i j => E 14 i j (by decide) (by omega) (by omega) (by omega)
  have m19 : g' 20 0 19 = g 20 0 19 := E 20 0 19 (by decide) (by omega) (by omega) (by omega)
  have m21 : g' 20 0 21 = g 20 0 21 := E 20 0 21 (by decide) (by omega) (by omega) (by omega)
  have m22 : g' 20 0 22 = g 20 0 22 := E 20 0 22 (by decide) (by omega) (by omega) (by omega)
  have m23 : g' 20 0 23 = g 20 0 23 := E 20 0 23 (by decide) (by omega) (by omega) (by omega)
  have m24 : g' 20 0 24 = g 20 0 24 := E 20 0 24 (by decide) (by omega) (by omega) (by omega)
  have m25 : g' 20 0 25 = g 20 0 25 := E 20 0 25 (by decide) (by omega) (by omega) (by omega)
  have M : ∀ k j, 21 ≤ k → k < 34 → g' k 0 j = g k 0 j := fun k j h1 h2 => E k 0 j (by omega) (by omega) (by omega) (by omega)
  have N : ∀ k j, 37 ≤ k → k < 40 → g' k 0 j = g k 0 j := fun k j h1 h2 => E k 0 j (by omega) (by omega) (by omega) (by omega)
  have q21 := fun j => M 21 j (by decide) (by decide)
  have q22 := fun j => M 22 j (by decide) (by decide)
  have q23 := fun j => M 23 j (by decide) (by decide)
  have q24 := fun j => M 24 j (by decide) (by decide)
  have q25 := fun j => M 25 j (by decide) (by decide)
  have q26 := fun j => M 26 j (by decide) (by decide)
  have q27 := fun j => M 27 j (by decide) (by decide)
  have q28 := fun j => M 28 j (by decide) (by decide)
  have q29 := fun j => M 29 j (by decide) (by decide)
  have q30 := fun j => M 30 j (by decide) (by decide)
  have q31 := fun j => M 31 j (by decide) (by decide)
  have q32 := fun j => M 32 j (by decide) (by decide)
  have q33 := fun j => M 33 j (by decide) (by decide)
  have q37 := fun j => N 37 j (by decide) (by decide)
  have q38 := fun j => N 38 j (by decide) (by decide)
  have q39 := fun j => N 39 j (by decide) (by decide)
  unfold Rel RB RS RL9 RZ Sl cRun at h ⊢
  simp only [a0, a1, a2, a3, a5, a6, a7, a8, a9, a10, a11, a12, a13, a14, m19, m21, m22, m23, m24, m25, q21, q22, q23, q24, q25, q26, q27, q28, q29, q30, q31, q32, q33, q37, q38, q39]
  exact h
theorem Rel_th {g : T3} (h : Rel g) (v : Nat) : Rel (up g 20 0 20 v) := Rel_cong h (Eq9_up (Eq9.rf g) (Or.inr (Or.inr (Or.inr ⟨rfl, Or.inl rfl⟩))))
theorem Rel_out {g : T3} (h : Rel g) (k v : Nat) (hk : 40 ≤ k) : Rel (up g k 0 0 v) := Rel_cong h (Eq9_up (Eq9.rf g) (Or.inl hk))
