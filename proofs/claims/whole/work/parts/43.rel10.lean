/-! THE RELATION after recover and sealAhead: the values of one secret. -/
theorem Rel_bind {g F : T3} (h : Rel g) {j : Nat} (hj : ∀ q, q < 3 → F 14 j q = F 39 0 (3 * j + q)) (E : ∀ k i q, k < 40 → ¬ (5 ≤ k ∧ k ≤ 9 ∧ ¬ i = 0) → ¬ (34 ≤ k ∧ k ≤ 36) → ¬ (k = 20 ∧ (q = 20 ∨ q = 26 ∨ q = 27 ∨ q = 28)) → ¬ (k = 14 ∧ i = j) → ¬ (k = 39 ∧ 3 * j ≤ q ∧ q < 3 * j + 3) → F k i q = g k i q) : Rel F := by
  -- F' agrees with g where Rel reads, but for secret j's values
  have hS := h.2.1
  have hg : Eq9 (fun k i q => if k = 14 ∧ i = j then F 14 j q else if k = 39 ∧ 3 * j ≤ q ∧ q < 3 * j + 3 then F 39 i q else g k i q) F := fun k i q h1 h2 h3 h4 => by
    show F k i q = if k = 14 ∧ i = j then F 14 j q else if k = 39 ∧ 3 * j ≤ q ∧ q < 3 * j + 3 then F 39 i q else g k i q
    by_cases e : k = 14 ∧ i = j
    · rw [if_pos e, e.1, e.2]
    · rw [if_neg e]
      by_cases d : k = 39 ∧ 3 * j ≤ q ∧ q < 3 * j + 3
      · rw [if_pos d, d.1]
      · rw [if_neg d]; exact E k i q h1 h2 h3 h4 e d
  refine Rel_cong ?_ hg
  obtain ⟨r1, ⟨s1, s2, s3, s4⟩, r3, r4⟩ := h
  refine ⟨r1, ⟨s1, s2, fun a ha => ?_, s4⟩, r3, r4⟩
  obtain ⟨t1, t2, t3⟩ := s3 a ha
  refine ⟨t1, t2, fun q hq => ?_⟩
  show (if 14 = 14 ∧ a = j then F 14 j q else if 14 = 39 ∧ 3 * j ≤ q ∧ q < 3 * j + 3 then F 39 a q else g 14 a q) = if 39 = 14 ∧ 0 = j then F 14 j (3 * a + q) else if 39 = 39 ∧ 3 * j ≤ 3 * a + q ∧ 3 * a + q < 3 * j + 3 then F 39 0 (3 * a + q) else g 39 0 (3 * a + q)
  rw [if_neg (show ¬ (39 = 14 ∧ 0 = j) by omega)]
  by_cases e : a = j
  · rw [if_pos ⟨rfl, e⟩, if_pos ⟨rfl, by omega, by omega⟩, e]; exact hj q hq
  · rw [if_neg (fun h => e h.2), if_neg (by omega), if_neg (by omega)]; exact t3 q hq
