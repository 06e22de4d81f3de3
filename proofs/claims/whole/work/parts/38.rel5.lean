/-! THE RELATION after the calls that write. -/
theorem Rel_trusted {g : T3} (h : Rel g) (j b : Nat) : Rel (up (up g 1 0 j b) 21 0 j b) := by
  refine ⟨⟨fun q h1 h2 => ?_, h.1.2⟩, h.2⟩
  show up g 1 0 j b 1 0 q = up (up g 1 0 j b) 21 0 j b 21 0 q
  rw [up_at, up_at]
  by_cases e : q = j
  · rw [if_pos ⟨rfl, rfl, e⟩, if_pos ⟨rfl, rfl, e⟩]
  · rw [if_neg (fun h => e h.2.2), if_neg (fun h => e h.2.2)]
    exact h.1.1 q h1 h2
theorem Rel_agreed {g : T3} (h : Rel g) (i b : Nat) : Rel (up (up g 2 0 i b) 23 0 i b) := by
  refine ⟨h.1, h.2.1, h.2.2.1, h.2.2.2.1, fun q hq => ?_, h.2.2.2.2.2⟩
  show up g 2 0 i b 2 0 q = up (up g 2 0 i b) 23 0 i b 23 0 q
  rw [up_at, up_at]
  by_cases e : q = i
  · rw [if_pos ⟨rfl, rfl, e⟩, if_pos ⟨rfl, rfl, e⟩]
  · rw [if_neg (fun h => e h.2.2), if_neg (fun h => e h.2.2)]
    exact h.2.2.2.2.1 q hq
theorem Rel_stop {g : T3} (h : Rel g) : Rel (up (up (up g 0 0 6 111) 20 0 19 111) 20 0 24 0) := by
  obtain ⟨h1, h2, ⟨a1, a2, a3, -, a5, a6, -⟩, h4, h5, -, -, h8⟩ := h
  exact ⟨h1, h2, ⟨a1, a2, a3, rfl, a5, a6, fun h => absurd (show (111 : Nat) = 114 from h) (by decide)⟩, h4, h5, rfl, Or.inl rfl, h8⟩
theorem Rel_bad {g : T3} (h : Rel g) {i s : Nat} (hs : s < 2) (b : Nat) : Rel (up (up g 12 (2 * i + s) 3 b) 22 0 (2 * i + s) b) := by
  refine ⟨⟨h.1.1, h.1.2.1, h.1.2.2.1, fun q hq => ?_⟩, h.2⟩
  obtain ⟨c1, c2, c3, c4, c5, c6⟩ := h.1.2.2.2 q hq
  refine ⟨c1, c2, c3, c4, c5, fun t ht => ?_⟩
  obtain ⟨d1, d2⟩ := c6 t ht
  refine ⟨d1, fun hn => ?_⟩
  obtain ⟨e0, e1, e2, e3, e4, e5⟩ := d2 hn
  have f : ∀ z, up (up g 12 (2 * i + s) 3 b) 22 0 (2 * i + s) b 12 (2 * q + t) z = if 2 * q + t = 2 * i + s ∧ z = 3 then b else g 12 (2 * q + t) z := fun z => by
    show up g 12 (2 * i + s) 3 b 12 (2 * q + t) z = _
    rw [up_at]; simp
  have f' : up (up g 12 (2 * i + s) 3 b) 22 0 (2 * i + s) b 22 0 (2 * q + t) = if 2 * q + t = 2 * i + s then b else g 22 0 (2 * q + t) := by
    rw [up_at]; simp; rfl
  rw [f, f, f, f, f', if_neg (by omega), if_neg (by omega), if_neg (by omega)]
  refine ⟨e0, e1, e2, ?_, e4, e5⟩
  by_cases z : 2 * q + t = 2 * i + s
  · rw [if_pos ⟨z, rfl⟩, if_pos z]
  · rw [if_neg (fun h => z h.1), if_neg z]
    exact e3
