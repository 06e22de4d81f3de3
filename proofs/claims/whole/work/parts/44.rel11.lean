/-! THE RELATION after addStage. -/
theorem Rel_add {g F : T3} (h : Rel g) (h111 : g 0 0 6 = 111) (hn : g 3 0 2 < 6) (hF : F 3 0 2 = g 3 0 2 + 1) (hM : F 20 0 21 = g 3 0 2 + 1) (hr : F 10 (g 3 0 2) 0 = F 24 0 (g 3 0 2)) (hr2 : F 24 0 (g 3 0 2) ≤ 2) (ha : F 10 (g 3 0 2) 2 = 0) (hc : F 10 (g 3 0 2) 3 = 0) (hi : ∀ s, F 11 (g 3 0 2) s = 0)
    (E : ∀ k i q, k < 40 → ¬ (k = 3 ∧ i = 0) → ¬ k = 4 → ¬ (5 ≤ k ∧ k ≤ 9 ∧ ¬ i = 0) → ¬ (34 ≤ k ∧ k ≤ 36) → ¬ (k = 20 ∧ (q = 20 ∨ q = 21 ∨ q = 26 ∨ q = 27 ∨ q = 28)) → ¬ ((k = 10 ∨ k = 11) ∧ i = g 3 0 2) → ¬ (k = 24 ∧ q = g 3 0 2) → F k i q = g k i q) : Rel F := by
  obtain ⟨⟨b1, b2, b3, b4⟩, ⟨s1, s2, s3, s4⟩, ⟨l1, l2, l3, l4, l5, l6, l7⟩, hZ, hA, h6, -, h7⟩ := h
  obtain ⟨z1, z2, z3⟩ := hZ (g 3 0 2) (Nat.le_refl _) hn
  have f : ∀ k i q, k < 40 → ¬ k = 3 → ¬ k = 4 → ¬ (5 ≤ k ∧ k ≤ 9) → ¬ (34 ≤ k ∧ k ≤ 36) → ¬ k = 20 → ¬ k = 10 → ¬ k = 11 → ¬ k = 24 → F k i q = g k i q := fun k i q a b c d e x y z w => E k i q a (by omega) c (by omega) e (by omega) (by omega) (by omega)
  have p : ∀ k q, 5 ≤ k → k ≤ 9 → F k 0 q = g k 0 q := fun k q a b => E k 0 q (by omega) (by omega) (by omega) (by omega) (by omega) (by omega) (by omega) (by omega)
  have m : ∀ q, 19 ≤ q → q ≤ 25 → ¬ q = 20 → ¬ q = 21 → F 20 0 q = g 20 0 q := fun q a b c d => E 20 0 q (by decide) (by omega) (by omega) (by omega) (by omega) (by omega) (by omega) (by omega)
  have a0 : ∀ q, F 0 0 q = g 0 0 q := fun q => f 0 0 q (by decide) (by decide) (by decide) (by decide) (by decide) (by decide) (by decide) (by decide) (by decide)
  have a31 : F 3 1 2 = g 3 1 2 := E 3 1 2 (by decide) (by omega) (by omega) (by omega) (by omega) (by omega) (by omega) (by omega)
  refine ⟨⟨fun q h1 h2 => ?_, by rw [hF, hM], by omega, fun i hi9 => ?_⟩, ⟨?_, ?_, fun j hj => ?_, fun _ => by omega⟩, ⟨?_, fun q hq => ?_, fun q hq => ?_, ?_, fun q hq => ?_, ?_, fun hs => ?_⟩, fun i h1 h2 => ?_, fun q hq => ?_, ?_, ?_, ?_⟩
  · rw [f 1 0 q (by decide) (by decide) (by decide) (by decide) (by decide) (by decide) (by decide) (by decide) (by decide), f 21 0 q (by decide) (by decide) (by decide) (by decide) (by decide) (by decide) (by decide) (by decide) (by decide)]; exact b1 q h1 h2
  · rw [hF] at hi9
    have g25 : F 25 0 i = g 25 0 i := f 25 0 i (by decide) (by decide) (by decide) (by decide) (by decide) (by decide) (by decide) (by decide) (by decide)
    have g26 : F 26 0 i = g 26 0 i := f 26 0 i (by decide) (by decide) (by decide) (by decide) (by decide) (by decide) (by decide) (by decide) (by decide)
    have g27 : ∀ q, F 27 0 q = g 27 0 q := fun q => f 27 0 q (by decide) (by decide) (by decide) (by decide) (by decide) (by decide) (by decide) (by decide) (by decide)
    by_cases e : i = g 3 0 2
    · subst e
      exact ⟨hr, by rw [ha, g25, z1], by rw [hc, g26, z2], hr2, by rw [g25, z1]; exact Nat.zero_le _, fun s hs => ⟨⟨fun _ => by rw [g27]; exact z3 s hs, fun _ => hi s⟩, fun hn => absurd (hi s) hn⟩⟩
    · obtain ⟨d1, d2, d3, d4, d5, d6⟩ := b4 i (by omega)
      have g10 : ∀ q, F 10 i q = g 10 i q := fun q => E 10 i q (by decide) (by omega) (by omega) (by omega) (by omega) (by omega) (by omega) (by omega)
      have g11 : ∀ q, F 11 i q = g 11 i q := fun q => E 11 i q (by decide) (by omega) (by omega) (by omega) (by omega) (by omega) (by omega) (by omega)
      have g24 : F 24 0 i = g 24 0 i := E 24 0 i (by decide) (by omega) (by omega) (by omega) (by omega) (by omega) (by omega) (by omega)
      refine ⟨by rw [g10, g24]; exact d1, by rw [g10, g25]; exact d2, by rw [g10, g26]; exact d3, by rw [g24]; exact d4, by rw [g25]; exact d5, fun s hs => ?_⟩
      have d7 := d6 s hs
      have w : ∀ k, k = 22 ∨ k = 28 ∨ k = 29 → ∀ q, F k 0 q = g k 0 q := fun k hk q => f k 0 q (by omega) (by omega) (by omega) (by omega) (by omega) (by omega) (by omega) (by omega) (by omega)
      have g12 : ∀ a q, F 12 a q = g 12 a q := fun a q => f 12 a q (by decide) (by decide) (by decide) (by decide) (by decide) (by decide) (by decide) (by decide) (by decide)
      have w22 := w 22 (by decide)
      have w28 := w 28 (by decide)
      have w29 := w 29 (by decide)
      unfold Sl at d7 ⊢
      simp only [g11, g12, g27, w22, w28, w29]
      exact d7
  · rw [a31, m 22 (by decide) (by decide) (by decide) (by decide)]; exact s1
  · rw [a31]; exact s2
  · rw [a31] at hj
    have g13 : ∀ q, F 13 j q = g 13 j q := fun q => f 13 j q (by decide) (by decide) (by decide) (by decide) (by decide) (by decide) (by decide) (by decide) (by decide)
    have g14 : ∀ q, F 14 j q = g 14 j q := fun q => f 14 j q (by decide) (by decide) (by decide) (by decide) (by decide) (by decide) (by decide) (by decide) (by decide)
    have w : ∀ k, 37 ≤ k → k < 40 → ∀ q, F k 0 q = g k 0 q := fun k h1 h2 q => f k 0 q (by omega) (by omega) (by omega) (by omega) (by omega) (by omega) (by omega) (by omega) (by omega)
    obtain ⟨t1, t2, t3⟩ := s3 j hj
    exact ⟨by rw [g13, w 37 (by decide) (by decide)]; exact t1, by rw [g13, w 38 (by decide) (by decide)]; exact t2, fun q hq => by rw [g14, w 39 (by decide) (by decide)]; exact t3 q hq⟩
  · rw [p 5 2 (by decide) (by decide), m 23 (by decide) (by decide) (by decide) (by decide)]; exact l1
  · rw [m 23 (by decide) (by decide) (by decide) (by decide)] at hq
    rw [p 7 q (by decide) (by decide), f 32 0 q (by decide) (by decide) (by decide) (by decide) (by decide) (by decide) (by decide) (by decide) (by decide)]; exact l2 q hq
  · rw [p 6 q (by decide) (by decide), f 33 0 q (by decide) (by decide) (by decide) (by decide) (by decide) (by decide) (by decide) (by decide) (by decide)]; exact l3 q hq
  · rw [m 24 (by decide) (by decide) (by decide) (by decide), l4]
    unfold cRun
    rw [a0, p 5 5 (by decide) (by decide)]
  · rw [p 5 5 (by decide) (by decide)] at hq
    rw [p 8 q (by decide) (by decide), p 9 q (by decide) (by decide), f 30 0 q (by decide) (by decide) (by decide) (by decide) (by decide) (by decide) (by decide) (by decide) (by decide), f 31 0 q (by decide) (by decide) (by decide) (by decide) (by decide) (by decide) (by decide) (by decide) (by decide)]; exact l5 q hq
  · rw [p 5 5 (by decide) (by decide), hF]; omega
  · rw [a0, h111] at hs; exact absurd hs (by decide)
  · rw [hF] at h1
    obtain ⟨y1, y2, y3⟩ := hZ i (by omega) h2
    have w : ∀ k, 25 ≤ k → k ≤ 27 → ∀ q, F k 0 q = g k 0 q := fun k h1 h2 q => f k 0 q (by omega) (by omega) (by omega) (by omega) (by omega) (by omega) (by omega) (by omega) (by omega)
    exact ⟨by rw [w 25 (by decide) (by decide)]; exact y1, by rw [w 26 (by decide) (by decide)]; exact y2, fun s hs => by rw [w 27 (by decide) (by decide)]; exact y3 s hs⟩
  · rw [f 2 0 q (by decide) (by decide) (by decide) (by decide) (by decide) (by decide) (by decide) (by decide) (by decide), f 23 0 q (by decide) (by decide) (by decide) (by decide) (by decide) (by decide) (by decide) (by decide) (by decide)]; exact hA q hq
  · rw [a0, m 19 (by decide) (by decide) (by decide) (by decide)]; exact h6
  · rw [a0]; exact Or.inl h111
  · rw [a0, m 25 (by decide) (by decide) (by decide) (by decide)]; exact h7
