/-! THE FIRST STATE: what the constructors have made is the world. -/
def g0 : T3 := fun k i j => if (k = 0 ∧ i = 0 ∧ j = 6) ∨ (k = 20 ∧ i = 0 ∧ j = 19) then 111 else 0
def ix0 (k i : Nat) : Nat := match k with
  | 0 => 0
  | 1 => 1
  | 2 => 4
  | 3 => 2 + i
  | 5 => 5 + 5 * i
  | 6 => 6 + 5 * i
  | 7 => 7 + 5 * i
  | 8 => 8 + 5 * i
  | 9 => 9 + 5 * i
  | k => k - 5
def kx0 (n : Nat) : Nat := [0, 1, 3, 3, 2, 5, 6, 7, 8, 9, 5, 6, 7, 8, 9, 20, 21, 22, 23, 24, 25, 26, 27, 28, 29, 30, 31, 32, 33, 34, 35, 36, 37, 38, 39, 40, 41].getD n 0
def jx0 (n : Nat) : Nat := [0, 0, 0, 1, 0, 0, 0, 0, 0, 0, 1, 1, 1, 1, 1, 0, 0, 0, 0, 0, 0, 0, 0, 0, 0, 0, 0, 0, 0, 0, 0, 0, 0, 0, 0, 0, 0].getD n 0
abbrev ws0 (Z q : Nat → Nat) : va_W := [(q 0, .inr (7, [.ref (q 1), .ref (q 2), .ref (q 3), .ref (q 4), .ref (q 5), .ref (q 10), .int (nI 111), .int (nI 0)])), (q 1, .inl (Z 1, 10, .inl fun _ => nI 0)), (q 2, .inr (2, [.int (nI 0), .ref (Z 6), .int (nI 0)])), (q 3, .inr (2, [.int (nI 0), .ref (Z 6), .int (nI 0)])), (q 4, .inl (Z 1, 5, .inl fun _ => nI 0)), (q 5, .inr (4, [.ref (q 6), .ref (q 7), .int (nI 0), .ref (q 8), .ref (q 9), .int (nI 0), .int (nI 0)])), (q 6, .inl (Z 0, 3, .inl fun _ => nI 0)), (q 7, .inl (Z 0, 12, .inl fun _ => nI 0)), (q 8, .inl (Z 0, 6, .inl fun _ => nI 0)), (q 9, .inl (Z 0, 6, .inl fun _ => nI 0)), (q 10, .inr (4, [.ref (q 11), .ref (q 12), .int (nI 0), .ref (q 13), .ref (q 14), .int (nI 0), .int (nI 0)])), (q 11, .inl (Z 0, 3, .inl fun _ => nI 0)), (q 12, .inl (Z 0, 12, .inl fun _ => nI 0)), (q 13, .inl (Z 0, 6, .inl fun _ => nI 0)), (q 14, .inl (Z 0, 6, .inl fun _ => nI 0)), (q 15, .inr (8, [.ref (q 16), .ref (q 17), .ref (q 18), .ref (q 19), .ref (q 20), .ref (q 21), .ref (q 22), .ref (q 23), .ref (q 24), .ref (q 25), .ref (q 26), .ref (q 27), .ref (q 28), .ref (q 29), .ref (q 30), .ref (q 31), .ref (q 32), .ref (q 33), .ref (q 34), .int (nI 111), .int (nI 0), .int (nI 0), .int (nI 0), .int (nI 0), .int (nI 0), .int (nI 0), .int (nI 0), .int (nI 0), .int (nI 0)])), (q 16, .inl (Z 1, 10, .inl fun _ => nI 0)), (q 17, .inl (Z 1, 12, .inl fun _ => nI 0)), (q 18, .inl (Z 1, 5, .inl fun _ => nI 0)), (q 19, .inl (Z 0, 6, .inl fun _ => nI 0)), (q 20, .inl (Z 0, 6, .inl fun _ => nI 0)), (q 21, .inl (Z 0, 6, .inl fun _ => nI 0)), (q 22, .inl (Z 0, 12, .inl fun _ => nI 0)), (q 23, .inl (Z 0, 12, .inl fun _ => nI 0)), (q 24, .inl (Z 0, 12, .inl fun _ => nI 0)), (q 25, .inl (Z 0, 6, .inl fun _ => nI 0)), (q 26, .inl (Z 0, 6, .inl fun _ => nI 0)), (q 27, .inl (Z 0, 12, .inl fun _ => nI 0)), (q 28, .inl (Z 0, 3, .inl fun _ => nI 0)), (q 29, .inl (Z 0, 6, .inl fun _ => nI 0)), (q 30, .inl (Z 0, 12, .inl fun _ => nI 0)), (q 31, .inl (Z 0, 3, .inl fun _ => nI 0)), (q 32, .inl (Z 0, 8, .inl fun _ => nI 0)), (q 33, .inl (Z 0, 8, .inl fun _ => nI 0)), (q 34, .inl (Z 0, 24, .inl fun _ => nI 0)), (q 35, .inl (Z 4, 1, .inr (.inl fun _ => lN 0))), (q 36, .inl (Z 5, 1, .inr (.inr (.inr (.inl fun _ => UInt64.ofNat 0)))))]
abbrev ad0 (q : Nat → Nat) : T2 := fun k i => q (ix0 k i)
theorem live0 {k i : Nat} (h : lv g0 k i) : (k = 0 ∧ i = 0) ∨ (k = 1 ∧ i = 0) ∨ (k = 3 ∧ i = 0) ∨ (k = 3 ∧ i = 1) ∨ (k = 2 ∧ i = 0) ∨ (k = 5 ∧ i = 0) ∨ (k = 6 ∧ i = 0) ∨ (k = 7 ∧ i = 0) ∨ (k = 8 ∧ i = 0) ∨ (k = 9 ∧ i = 0) ∨ (k = 5 ∧ i = 1) ∨ (k = 6 ∧ i = 1) ∨ (k = 7 ∧ i = 1) ∨ (k = 8 ∧ i = 1) ∨ (k = 9 ∧ i = 1) ∨ (k = 20 ∧ i = 0) ∨ (k = 21 ∧ i = 0) ∨ (k = 22 ∧ i = 0) ∨ (k = 23 ∧ i = 0) ∨ (k = 24 ∧ i = 0) ∨ (k = 25 ∧ i = 0) ∨ (k = 26 ∧ i = 0) ∨ (k = 27 ∧ i = 0) ∨ (k = 28 ∧ i = 0) ∨ (k = 29 ∧ i = 0) ∨ (k = 30 ∧ i = 0) ∨ (k = 31 ∧ i = 0) ∨ (k = 32 ∧ i = 0) ∨ (k = 33 ∧ i = 0) ∨ (k = 34 ∧ i = 0) ∨ (k = 35 ∧ i = 0) ∨ (k = 36 ∧ i = 0) ∨ (k = 37 ∧ i = 0) ∨ (k = 38 ∧ i = 0) ∨ (k = 39 ∧ i = 0) ∨ (k = 40 ∧ i = 0) ∨ (k = 41 ∧ i = 0) := by
  have e33 : g0 3 0 3 = 0 := rfl
  have e313 : g0 3 1 3 = 0 := rfl
  have e31 : ∀ i, g0 3 i 1 = 0 := fun _ => rfl
  have w : (i = 0 ∧ (k ≤ 3 ∨ (5 ≤ k ∧ k ≤ 9) ∨ (20 ≤ k ∧ k ≤ 41))) ∨ (i = 1 ∧ (k = 3 ∨ (5 ≤ k ∧ k ≤ 9))) := by
    unfold lv at h
    split at h <;> first | omega | exact absurd (e31 i) h.2 | (rw [e33] at h; omega) | (rw [e313] at h; omega) | (rw [e33] at h; exact absurd h.1 (Nat.not_lt_zero _))
  rcases w with ⟨hi, w | w | w⟩ | ⟨hi, w | w⟩
  · rcases (show k = 0 ∨ k = 1 ∨ k = 2 ∨ k = 3 by omega) with h | h | h | h
    · exact (Or.inl ⟨h, hi⟩)
    · exact (Or.inr (Or.inl ⟨h, hi⟩))
    · exact (Or.inr (Or.inr (Or.inr (Or.inr (Or.inl ⟨h, hi⟩)))))
    · exact (Or.inr (Or.inr (Or.inl ⟨h, hi⟩)))
  · rcases (show k = 5 ∨ k = 6 ∨ k = 7 ∨ k = 8 ∨ k = 9 by omega) with h | h | h | h | h
    · exact (Or.inr (Or.inr (Or.inr (Or.inr (Or.inr (Or.inl ⟨h, hi⟩))))))
    · exact (Or.inr (Or.inr (Or.inr (Or.inr (Or.inr (Or.inr (Or.inl ⟨h, hi⟩)))))))
    · exact (Or.inr (Or.inr (Or.inr (Or.inr (Or.inr (Or.inr (Or.inr (Or.inl ⟨h, hi⟩))))))))
    · exact (Or.inr (Or.inr (Or.inr (Or.inr (Or.inr (Or.inr (Or.inr (Or.inr (Or.inl ⟨h, hi⟩)))))))))
    · exact (Or.inr (Or.inr (Or.inr (Or.inr (Or.inr (Or.inr (Or.inr (Or.inr (Or.inr (Or.inl ⟨h, hi⟩))))))))))
  · rcases (show k = 20 ∨ k = 21 ∨ k = 22 ∨ k = 23 ∨ k = 24 ∨ k = 25 ∨ k = 26 ∨ k = 27 ∨ k = 28 ∨ k = 29 ∨ k = 30 ∨ k = 31 ∨ k = 32 ∨ k = 33 ∨ k = 34 ∨ k = 35 ∨ k = 36 ∨ k = 37 ∨ k = 38 ∨ k = 39 ∨ k = 40 ∨ k = 41 by omega) with h | h | h | h | h | h | h | h | h | h | h | h | h | h | h | h | h | h | h | h | h | h
    · exact (Or.inr (Or.inr (Or.inr (Or.inr (Or.inr (Or.inr (Or.inr (Or.inr (Or.inr (Or.inr (Or.inr (Or.inr (Or.inr (Or.inr (Or.inr (Or.inl ⟨h, hi⟩))))))))))))))))
    · exact (Or.inr (Or.inr (Or.inr (Or.inr (Or.inr (Or.inr (Or.inr (Or.inr (Or.inr (Or.inr (Or.inr (Or.inr (Or.inr (Or.inr (Or.inr (Or.inr (Or.inl ⟨h, hi⟩)))))))))))))))))
    · exact (Or.inr (Or.inr (Or.inr (Or.inr (Or.inr (Or.inr (Or.inr (Or.inr (Or.inr (Or.inr (Or.inr (Or.inr (Or.inr (Or.inr (Or.inr (Or.inr (Or.inr (Or.inl ⟨h, hi⟩))))))))))))))))))
    · exact (Or.inr (Or.inr (Or.inr (Or.inr (Or.inr (Or.inr (Or.inr (Or.inr (Or.inr (Or.inr (Or.inr (Or.inr (Or.inr (Or.inr (Or.inr (Or.inr (Or.inr (Or.inr (Or.inl ⟨h, hi⟩)))))))))))))))))))
    · exact (Or.inr (Or.inr (Or.inr (Or.inr (Or.inr (Or.inr (Or.inr (Or.inr (Or.inr (Or.inr (Or.inr (Or.inr (Or.inr (Or.inr (Or.inr (Or.inr (Or.inr (Or.inr (Or.inr (Or.inl ⟨h, hi⟩))))))))))))))))))))
    · exact (Or.inr (Or.inr (Or.inr (Or.inr (Or.inr (Or.inr (Or.inr (Or.inr (Or.inr (Or.inr (Or.inr (Or.inr (Or.inr (Or.inr (Or.inr (Or.inr (Or.inr (Or.inr (Or.inr (Or.inr (Or.inl ⟨h, hi⟩)))))))))))))))))))))
    · exact (Or.inr (Or.inr (Or.inr (Or.inr (Or.inr (Or.inr (Or.inr (Or.inr (Or.inr (Or.inr (Or.inr (Or.inr (Or.inr (Or.inr (Or.inr (Or.inr (Or.inr (Or.inr (Or.inr (Or.inr (Or.inr (Or.inl ⟨h, hi⟩))))))))))))))))))))))
    · exact (Or.inr (Or.inr (Or.inr (Or.inr (Or.inr (Or.inr (Or.inr (Or.inr (Or.inr (Or.inr (Or.inr (Or.inr (Or.inr (Or.inr (Or.inr (Or.inr (Or.inr (Or.inr (Or.inr (Or.inr (Or.inr (Or.inr (Or.inl ⟨h, hi⟩)))))))))))))))))))))))
    · exact (Or.inr (Or.inr (Or.inr (Or.inr (Or.inr (Or.inr (Or.inr (Or.inr (Or.inr (Or.inr (Or.inr (Or.inr (Or.inr (Or.inr (Or.inr (Or.inr (Or.inr (Or.inr (Or.inr (Or.inr (Or.inr (Or.inr (Or.inr (Or.inl ⟨h, hi⟩))))))))))))))))))))))))
    · exact (Or.inr (Or.inr (Or.inr (Or.inr (Or.inr (Or.inr (Or.inr (Or.inr (Or.inr (Or.inr (Or.inr (Or.inr (Or.inr (Or.inr (Or.inr (Or.inr (Or.inr (Or.inr (Or.inr (Or.inr (Or.inr (Or.inr (Or.inr (Or.inr (Or.inl ⟨h, hi⟩)))))))))))))))))))))))))
    · exact (Or.inr (Or.inr (Or.inr (Or.inr (Or.inr (Or.inr (Or.inr (Or.inr (Or.inr (Or.inr (Or.inr (Or.inr (Or.inr (Or.inr (Or.inr (Or.inr (Or.inr (Or.inr (Or.inr (Or.inr (Or.inr (Or.inr (Or.inr (Or.inr (Or.inr (Or.inl ⟨h, hi⟩))))))))))))))))))))))))))
    · exact (Or.inr (Or.inr (Or.inr (Or.inr (Or.inr (Or.inr (Or.inr (Or.inr (Or.inr (Or.inr (Or.inr (Or.inr (Or.inr (Or.inr (Or.inr (Or.inr (Or.inr (Or.inr (Or.inr (Or.inr (Or.inr (Or.inr (Or.inr (Or.inr (Or.inr (Or.inr (Or.inl ⟨h, hi⟩)))))))))))))))))))))))))))
    · exact (Or.inr (Or.inr (Or.inr (Or.inr (Or.inr (Or.inr (Or.inr (Or.inr (Or.inr (Or.inr (Or.inr (Or.inr (Or.inr (Or.inr (Or.inr (Or.inr (Or.inr (Or.inr (Or.inr (Or.inr (Or.inr (Or.inr (Or.inr (Or.inr (Or.inr (Or.inr (Or.inr (Or.inl ⟨h, hi⟩))))))))))))))))))))))))))))
    · exact (Or.inr (Or.inr (Or.inr (Or.inr (Or.inr (Or.inr (Or.inr (Or.inr (Or.inr (Or.inr (Or.inr (Or.inr (Or.inr (Or.inr (Or.inr (Or.inr (Or.inr (Or.inr (Or.inr (Or.inr (Or.inr (Or.inr (Or.inr (Or.inr (Or.inr (Or.inr (Or.inr (Or.inr (Or.inl ⟨h, hi⟩)))))))))))))))))))))))))))))
    · exact (Or.inr (Or.inr (Or.inr (Or.inr (Or.inr (Or.inr (Or.inr (Or.inr (Or.inr (Or.inr (Or.inr (Or.inr (Or.inr (Or.inr (Or.inr (Or.inr (Or.inr (Or.inr (Or.inr (Or.inr (Or.inr (Or.inr (Or.inr (Or.inr (Or.inr (Or.inr (Or.inr (Or.inr (Or.inr (Or.inl ⟨h, hi⟩))))))))))))))))))))))))))))))
    · exact (Or.inr (Or.inr (Or.inr (Or.inr (Or.inr (Or.inr (Or.inr (Or.inr (Or.inr (Or.inr (Or.inr (Or.inr (Or.inr (Or.inr (Or.inr (Or.inr (Or.inr (Or.inr (Or.inr (Or.inr (Or.inr (Or.inr (Or.inr (Or.inr (Or.inr (Or.inr (Or.inr (Or.inr (Or.inr (Or.inr (Or.inl ⟨h, hi⟩)))))))))))))))))))))))))))))))
    · exact (Or.inr (Or.inr (Or.inr (Or.inr (Or.inr (Or.inr (Or.inr (Or.inr (Or.inr (Or.inr (Or.inr (Or.inr (Or.inr (Or.inr (Or.inr (Or.inr (Or.inr (Or.inr (Or.inr (Or.inr (Or.inr (Or.inr (Or.inr (Or.inr (Or.inr (Or.inr (Or.inr (Or.inr (Or.inr (Or.inr (Or.inr (Or.inl ⟨h, hi⟩))))))))))))))))))))))))))))))))
    · exact (Or.inr (Or.inr (Or.inr (Or.inr (Or.inr (Or.inr (Or.inr (Or.inr (Or.inr (Or.inr (Or.inr (Or.inr (Or.inr (Or.inr (Or.inr (Or.inr (Or.inr (Or.inr (Or.inr (Or.inr (Or.inr (Or.inr (Or.inr (Or.inr (Or.inr (Or.inr (Or.inr (Or.inr (Or.inr (Or.inr (Or.inr (Or.inr (Or.inl ⟨h, hi⟩)))))))))))))))))))))))))))))))))
    · exact (Or.inr (Or.inr (Or.inr (Or.inr (Or.inr (Or.inr (Or.inr (Or.inr (Or.inr (Or.inr (Or.inr (Or.inr (Or.inr (Or.inr (Or.inr (Or.inr (Or.inr (Or.inr (Or.inr (Or.inr (Or.inr (Or.inr (Or.inr (Or.inr (Or.inr (Or.inr (Or.inr (Or.inr (Or.inr (Or.inr (Or.inr (Or.inr (Or.inr (Or.inl ⟨h, hi⟩))))))))))))))))))))))))))))))))))
    · exact (Or.inr (Or.inr (Or.inr (Or.inr (Or.inr (Or.inr (Or.inr (Or.inr (Or.inr (Or.inr (Or.inr (Or.inr (Or.inr (Or.inr (Or.inr (Or.inr (Or.inr (Or.inr (Or.inr (Or.inr (Or.inr (Or.inr (Or.inr (Or.inr (Or.inr (Or.inr (Or.inr (Or.inr (Or.inr (Or.inr (Or.inr (Or.inr (Or.inr (Or.inr (Or.inl ⟨h, hi⟩)))))))))))))))))))))))))))))))))))
    · exact (Or.inr (Or.inr (Or.inr (Or.inr (Or.inr (Or.inr (Or.inr (Or.inr (Or.inr (Or.inr (Or.inr (Or.inr (Or.inr (Or.inr (Or.inr (Or.inr (Or.inr (Or.inr (Or.inr (Or.inr (Or.inr (Or.inr (Or.inr (Or.inr (Or.inr (Or.inr (Or.inr (Or.inr (Or.inr (Or.inr (Or.inr (Or.inr (Or.inr (Or.inr (Or.inr (Or.inl ⟨h, hi⟩))))))))))))))))))))))))))))))))))))
    · exact (Or.inr (Or.inr (Or.inr (Or.inr (Or.inr (Or.inr (Or.inr (Or.inr (Or.inr (Or.inr (Or.inr (Or.inr (Or.inr (Or.inr (Or.inr (Or.inr (Or.inr (Or.inr (Or.inr (Or.inr (Or.inr (Or.inr (Or.inr (Or.inr (Or.inr (Or.inr (Or.inr (Or.inr (Or.inr (Or.inr (Or.inr (Or.inr (Or.inr (Or.inr (Or.inr (Or.inr ⟨h, hi⟩))))))))))))))))))))))))))))))))))))
  · have h := w
    exact (Or.inr (Or.inr (Or.inr (Or.inl ⟨h, hi⟩))))
  · rcases (show k = 5 ∨ k = 6 ∨ k = 7 ∨ k = 8 ∨ k = 9 by omega) with h | h | h | h | h
    · exact (Or.inr (Or.inr (Or.inr (Or.inr (Or.inr (Or.inr (Or.inr (Or.inr (Or.inr (Or.inr (Or.inl ⟨h, hi⟩)))))))))))
    · exact (Or.inr (Or.inr (Or.inr (Or.inr (Or.inr (Or.inr (Or.inr (Or.inr (Or.inr (Or.inr (Or.inr (Or.inl ⟨h, hi⟩))))))))))))
    · exact (Or.inr (Or.inr (Or.inr (Or.inr (Or.inr (Or.inr (Or.inr (Or.inr (Or.inr (Or.inr (Or.inr (Or.inr (Or.inl ⟨h, hi⟩)))))))))))))
    · exact (Or.inr (Or.inr (Or.inr (Or.inr (Or.inr (Or.inr (Or.inr (Or.inr (Or.inr (Or.inr (Or.inr (Or.inr (Or.inr (Or.inl ⟨h, hi⟩))))))))))))))
    · exact (Or.inr (Or.inr (Or.inr (Or.inr (Or.inr (Or.inr (Or.inr (Or.inr (Or.inr (Or.inr (Or.inr (Or.inr (Or.inr (Or.inr (Or.inl ⟨h, hi⟩)))))))))))))))
set_option maxHeartbeats 4000000 in
set_option maxRecDepth 100000 in
theorem init_Wd {D : va_G} {Z : Nat → Nat} {N0 : Nat} {H : Heap} (q : Nat → Nat) (hP : va_P D vwCl (ws0 Z q) H) (hD : va_D (AA N0) (ws0 Z q)) : Wd D Z N0 g0 (ad0 q) H := by
  have hm : ∀ k i, lv g0 k i → (ws0 Z q)[ix0 k i]? = some (ad0 q k i, ct Z (ad0 q) k i (g0 k i)) := by
    intro k i h
    rcases live0 h with ⟨rfl, rfl⟩ | ⟨rfl, rfl⟩ | ⟨rfl, rfl⟩ | ⟨rfl, rfl⟩ | ⟨rfl, rfl⟩ | ⟨rfl, rfl⟩ | ⟨rfl, rfl⟩ | ⟨rfl, rfl⟩ | ⟨rfl, rfl⟩ | ⟨rfl, rfl⟩ | ⟨rfl, rfl⟩ | ⟨rfl, rfl⟩ | ⟨rfl, rfl⟩ | ⟨rfl, rfl⟩ | ⟨rfl, rfl⟩ | ⟨rfl, rfl⟩ | ⟨rfl, rfl⟩ | ⟨rfl, rfl⟩ | ⟨rfl, rfl⟩ | ⟨rfl, rfl⟩ | ⟨rfl, rfl⟩ | ⟨rfl, rfl⟩ | ⟨rfl, rfl⟩ | ⟨rfl, rfl⟩ | ⟨rfl, rfl⟩ | ⟨rfl, rfl⟩ | ⟨rfl, rfl⟩ | ⟨rfl, rfl⟩ | ⟨rfl, rfl⟩ | ⟨rfl, rfl⟩ | ⟨rfl, rfl⟩ | ⟨rfl, rfl⟩ | ⟨rfl, rfl⟩ | ⟨rfl, rfl⟩ | ⟨rfl, rfl⟩ | ⟨rfl, rfl⟩ | ⟨rfl, rfl⟩ <;> rfl
  have hv : ∀ k i, lv g0 k i → kx0 (ix0 k i) = k ∧ jx0 (ix0 k i) = i := by
    intro k i h
    rcases live0 h with ⟨rfl, rfl⟩ | ⟨rfl, rfl⟩ | ⟨rfl, rfl⟩ | ⟨rfl, rfl⟩ | ⟨rfl, rfl⟩ | ⟨rfl, rfl⟩ | ⟨rfl, rfl⟩ | ⟨rfl, rfl⟩ | ⟨rfl, rfl⟩ | ⟨rfl, rfl⟩ | ⟨rfl, rfl⟩ | ⟨rfl, rfl⟩ | ⟨rfl, rfl⟩ | ⟨rfl, rfl⟩ | ⟨rfl, rfl⟩ | ⟨rfl, rfl⟩ | ⟨rfl, rfl⟩ | ⟨rfl, rfl⟩ | ⟨rfl, rfl⟩ | ⟨rfl, rfl⟩ | ⟨rfl, rfl⟩ | ⟨rfl, rfl⟩ | ⟨rfl, rfl⟩ | ⟨rfl, rfl⟩ | ⟨rfl, rfl⟩ | ⟨rfl, rfl⟩ | ⟨rfl, rfl⟩ | ⟨rfl, rfl⟩ | ⟨rfl, rfl⟩ | ⟨rfl, rfl⟩ | ⟨rfl, rfl⟩ | ⟨rfl, rfl⟩ | ⟨rfl, rfl⟩ | ⟨rfl, rfl⟩ | ⟨rfl, rfl⟩ | ⟨rfl, rfl⟩ | ⟨rfl, rfl⟩ <;> exact ⟨rfl, rfl⟩
  refine ⟨fun k i h => ⟨hP _ _ (hm k i h), hD.2 _ _ (hm k i h)⟩, fun k i k' i' a b e => ?_, fun k i j => ?_, fun L hL => ?_⟩
  · have e9 : ix0 k i = ix0 k' i' := hD.1 _ _ _ _ (hm k i a) (hm k' i' b) e
    have h1 := hv k i a
    have h2 := hv k' i' b
    rw [e9] at h1
    exact ⟨h1.1.symm.trans h2.1, h1.2.symm.trans h2.2⟩
  · unfold g0
    split
    · rename_i h
      rcases h with ⟨rfl, rfl, rfl⟩ | ⟨rfl, rfl, rfl⟩
      · exact Or.inr (show (111 : Nat) ≤ 127 by decide)
      · exact Or.inr (show (111 : Nat) ≤ 127 by decide)
    · exact Or.inr (Nat.zero_le _)
  · exact ⟨Nat.zero_le _, fun h => absurd rfl h, fun j hj => absurd (show j < 0 from hj) (Nat.not_lt_zero j)⟩
theorem Rel_0 : Rel g0 := by
  refine ⟨⟨fun _ _ _ => rfl, rfl, Nat.zero_le _, fun i hi => absurd (show i < 0 from hi) (Nat.not_lt_zero i)⟩, ⟨rfl, Nat.zero_le _, fun j hj => absurd (show j < 0 from hj) (Nat.not_lt_zero j), fun h => absurd (show 0 < 0 from h) (Nat.not_lt_zero 0)⟩, ⟨rfl, fun q hq => absurd (show q < 0 from hq) (Nat.not_lt_zero q), fun _ _ => rfl, rfl, fun q hq => absurd (show q < 0 from hq) (Nat.not_lt_zero q), Nat.zero_le _, fun h => absurd (show (111 : Nat) = 114 from h) (by decide)⟩, fun _ _ _ => ⟨rfl, rfl, fun _ _ => rfl⟩, fun _ _ => rfl, rfl, Or.inl rfl, rfl⟩
theorem Iv_0 : Iv g0 := ⟨fun _ _ => rfl, fun _ _ _ _ => rfl, fun _ _ _ => rfl⟩
theorem Kv_0 : Kv g0 := fun h => absurd (show (111 : Nat) = 114 from h) (by decide)
