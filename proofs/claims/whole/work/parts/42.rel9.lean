/-! THE RELATION after commit: class from g, model from h0. -/
theorem Rel_commit {g h0 : T3} (h : Rel g) (h114 : g 0 0 6 = 114) (Hc : ∀ a r x, a < 20 → h0 a r x = (cmt g (g 3 0 2)).2 a r x) (Hm : ∀ k i j, 20 ≤ k → k < 40 → ¬ (k = 20 ∧ j = 20) → h0 k i j = g k i j) :
    (cmt g (g 3 0 2)).1 = (mCm h0 (g 3 0 2)).1 ∧ Rel (mCm h0 (g 3 0 2)).2 := by
  obtain ⟨hR, hS, hL, hZ, hA, h6, h3s, h7⟩ := h
  have hn := hL.2.2.2.2.2.2 h114
  obtain ⟨e1, e2⟩ := cmt_eq2 (g := g) (h := h0) (n := g 3 0 2) (fun k hk => by rw [Hm 31 0 k (by decide) (by decide) (by omega)]; exact (hL.2.2.2.2.1 k (by omega)).2) (fun i hi => by rw [Hm 26 0 i (by decide) (by decide) (by omega)]; exact (hR.2.2.2 i hi).2.2.1) (g 3 0 2) (Nat.le_refl _)
  refine ⟨e1, ?_⟩
  have C : ∀ a r x, a < 20 → (mCm h0 (g 3 0 2)).2 a r x = (cmt g (g 3 0 2)).2 a r x := fun a r x ha => by
    rw [mCm_fr h0 _ a r x (by omega), Hc a r x ha]
  have C9 : ∀ a r x, a < 20 → ¬ (a = 10 ∧ x = 3) → (mCm h0 (g 3 0 2)).2 a r x = g a r x := fun a r x ha hx => by
    rw [C a r x ha, cmt_fr g _ a r x (fun e => hx ⟨e.1, e.2.1⟩)]
  have M9 : ∀ k i j, 20 ≤ k → k < 40 → ¬ (k = 20 ∧ j = 20) → ¬ (k = 26 ∧ j < g 3 0 2) → (mCm h0 (g 3 0 2)).2 k i j = g k i j := fun k i j a b c d => by
    rw [mCm_fr h0 _ k i j d, Hm k i j a b c]
  have a0 := fun j => C9 0 0 j (by decide) (by omega)
  have a1 := fun j => C9 1 0 j (by decide) (by omega)
  have a2 := fun j => C9 2 0 j (by decide) (by omega)
  have a3 := fun i j => C9 3 i j (by decide) (by omega)
  have a5 := fun j => C9 5 0 j (by decide) (by omega)
  have a6 := fun j => C9 6 0 j (by decide) (by omega)
  have a7 := fun j => C9 7 0 j (by decide) (by omega)
  have a8 := fun j => C9 8 0 j (by decide) (by omega)
  have a9 := fun j => C9 9 0 j (by decide) (by omega)
  have a10 := fun i => C9 10 i 0 (by decide) (by omega)
  have b10 := fun i => C9 10 i 2 (by decide) (by omega)
  have a11 := fun i j => C9 11 i j (by decide) (by omega)
  have a12 := fun i j => C9 12 i j (by decide) (by omega)
  have a13 := fun i j => C9 13 i j (by decide) (by omega)
  have a14 := fun i j => C9 14 i j (by decide) (by omega)
  have m20 := fun j (h : ¬ j = 20) => M9 20 0 j (by decide) (by decide) (by omega) (by omega)
  have m19 := m20 19 (by decide)
  have m21 := m20 21 (by decide)
  have m22 := m20 22 (by decide)
  have m23 := m20 23 (by decide)
  have m24 := m20 24 (by decide)
  have m25 := m20 25 (by decide)
  have Q : ∀ k, 21 ≤ k → k < 40 → ¬ k = 26 → ∀ j, (mCm h0 (g 3 0 2)).2 k 0 j = g k 0 j := fun k a b c j => M9 k 0 j (by omega) b (by omega) (by omega)
  have q21 := Q 21 (by decide) (by decide) (by decide)
  have q22 := Q 22 (by decide) (by decide) (by decide)
  have q23 := Q 23 (by decide) (by decide) (by decide)
  have q24 := Q 24 (by decide) (by decide) (by decide)
  have q25 := Q 25 (by decide) (by decide) (by decide)
  have q27 := Q 27 (by decide) (by decide) (by decide)
  have q28 := Q 28 (by decide) (by decide) (by decide)
  have q29 := Q 29 (by decide) (by decide) (by decide)
  have q30 := Q 30 (by decide) (by decide) (by decide)
  have q31 := Q 31 (by decide) (by decide) (by decide)
  have q32 := Q 32 (by decide) (by decide) (by decide)
  have q33 := Q 33 (by decide) (by decide) (by decide)
  have q37 := Q 37 (by decide) (by decide) (by decide)
  have q38 := Q 38 (by decide) (by decide) (by decide)
  have q39 := Q 39 (by decide) (by decide) (by decide)
  refine ⟨⟨fun q h1 h2 => ?_, ?_, ?_, fun i hi => ?_⟩, ?_, ?_, fun i h1 h2 => ?_, fun q hq => ?_, ?_, ?_, ?_⟩
  · rw [a1, q21]; exact hR.1 q h1 h2
  · rw [a3, m21]; exact hR.2.1
  · rw [a3]; exact hR.2.2.1
  · rw [a3] at hi
    obtain ⟨d1, d2, -, d4, d5, d6⟩ := hR.2.2.2 i hi
    refine ⟨by rw [a10, q24]; exact d1, by rw [b10, q25]; exact d2, by rw [C 10 i 3 (by decide)]; exact e2 i hi, by rw [q24]; exact d4, by rw [q25]; exact d5, fun s hs => ?_⟩
    have d7 := d6 s hs
    unfold Sl at d7 ⊢
    simp only [a11, a12, q27, q28, q29, q22]
    exact d7
  · unfold RS at hS ⊢
    simp only [a3, a13, a14, m22, q37, q38, q39]
    exact hS
  · unfold RL9 cRun at hL ⊢
    simp only [a0, a3, a5, a6, a7, a8, a9, m23, m24, q30, q31, q32, q33]
    exact hL
  · rw [a3] at h1
    obtain ⟨z1, z2, z3⟩ := hZ i h1 h2
    refine ⟨by rw [q25]; exact z1, by rw [M9 26 0 i (by decide) (by decide) (by omega) (by omega)]; exact z2, fun s hs => by rw [q27]; exact z3 s hs⟩
  · rw [a2, q23]; exact hA q hq
  · rw [a0, m19]; exact h6
  · rw [a0]; exact h3s
  · rw [a0, m25]; exact h7
