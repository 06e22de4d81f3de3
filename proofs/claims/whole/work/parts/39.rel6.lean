/-! commit, side by side, over two states. -/
theorem cmt_fr (g : T3) : ∀ k a b q, ¬ (a = 10 ∧ q = 3 ∧ b < k) → (cmt g k).2 a b q = g a b q
  | 0, _, _, _, _ => rfl
  | k + 1, a, b, q, h => by
    have h1 := cmt_fr g k a b q (fun e => h ⟨e.1, e.2.1, by omega⟩)
    by_cases z : (cmt g k).2 9 0 k ≤ (cmt g k).2 10 k 3
    · rw [cmt_0 z]; exact h1
    · rw [cmt_1 z]
      show up _ 10 k 3 _ a b q = _
      rw [up_at, if_neg (fun e => h ⟨e.1, e.2.2, by omega⟩)]
      exact h1
theorem mCm_fr (g : T3) : ∀ k a b q, ¬ (a = 26 ∧ q < k) → (mCm g k).2 a b q = g a b q
  | 0, _, _, _, _ => rfl
  | k + 1, a, b, q, h => by
    have h1 := mCm_fr g k a b q (fun e => h ⟨e.1, by omega⟩)
    by_cases z : (mCm g k).2 31 0 k ≤ (mCm g k).2 26 0 k
    · rw [mCm_0 z]; exact h1
    · rw [mCm_1 z]
      show up _ 26 0 k _ a b q = _
      rw [up_at, if_neg (fun e => h ⟨e.1, by omega⟩)]
      exact h1
theorem cmt_eq2 {g h : T3} {n : Nat} (e9 : ∀ k, k < n → g 9 0 k = h 31 0 k) (e10 : ∀ i, i < n → g 10 i 3 = h 26 0 i) : ∀ k, k ≤ n → (cmt g k).1 = (mCm h k).1 ∧ ∀ i, i < n → (cmt g k).2 10 i 3 = (mCm h k).2 26 0 i := by
  intro k
  induction k with
  | zero => exact fun _ => ⟨rfl, e10⟩
  | succ k ih =>
    intro hk
    obtain ⟨i1, i2⟩ := ih (by omega)
    have e : (cmt g k).2 9 0 k = (mCm h k).2 31 0 k := by
      rw [cmt_fr g k 9 0 k (by omega), mCm_fr h k 31 0 k (by omega)]
      exact e9 k (by omega)
    have ek := i2 k (by omega)
    by_cases z : (cmt g k).2 9 0 k ≤ (cmt g k).2 10 k 3
    · rw [cmt_0 z, mCm_0 (by rw [← e, ← ek]; exact z)]
      exact ⟨i1, i2⟩
    · rw [cmt_1 z, mCm_1 (by rw [← e, ← ek]; exact z)]
      refine ⟨by show _ + 1 = _ + 1; rw [i1], fun i hi => ?_⟩
      show up _ 10 k 3 _ 10 i 3 = up _ 26 0 k _ 26 0 i
      rw [up_at, up_at, e]
      by_cases y : i = k
      · rw [if_pos ⟨rfl, y, rfl⟩, if_pos ⟨rfl, rfl, y⟩]
      · rw [if_neg (fun h => y h.2.1), if_neg (fun h => y h.2.2)]
        exact i2 i hi
/-- recover and sealAhead: the values of secret j, from registers that agree -/
theorem bind_eq {g h : T3} {p b j : Nat} (h6 : ∀ q, q < 3 → g 6 p q = bV h b q) : (∀ q, q < 3 → bnT g j p 14 j q = mSe h j b 3 39 0 (3 * j + q)) ∧ (∀ a i q, ¬ (a = 14 ∧ i = j) → bnT g j p a i q = g a i q) ∧ (∀ a i q, ¬ (a = 39 ∧ 3 * j ≤ q ∧ q < 3 * j + 3) → mSe h j b 3 a i q = h a i q) := by
  have v0 : bV (mSe h j b 0) b 0 = bV h b 0 := rfl
  have v1 : bV (mSe h j b 1) b 1 = bV h b 1 := rfl
  have v2 : bV (mSe h j b 2) b 2 = bV h b 2 := rfl
  have eM : mSe h j b 3 = up (up (up h 39 0 (3 * j + 0) (bV h b 0)) 39 0 (3 * j + 1) (bV h b 1)) 39 0 (3 * j + 2) (bV h b 2) := rfl
  refine ⟨fun q hq => ?_, fun a i q hq => ?_, fun a i q hq => ?_⟩
  · rw [eM, ← h6 0 (by decide), ← h6 1 (by decide), ← h6 2 (by decide)]
    unfold bnT
    rw [up_at, up_at, up_at, up_at, up_at, up_at]
    rcases (show q = 0 ∨ q = 1 ∨ q = 2 by omega) with rfl | rfl | rfl <;> simp
  · unfold bnT
    rw [up_at, if_neg (fun e => hq ⟨e.1, e.2.1⟩), up_at, if_neg (fun e => hq ⟨e.1, e.2.1⟩), up_at, if_neg (fun e => hq ⟨e.1, e.2.1⟩)]
  · rw [eM, up_at, if_neg (fun e => hq ⟨e.1, by omega, by omega⟩), up_at, if_neg (fun e => hq ⟨e.1, by omega, by omega⟩), up_at, if_neg (fun e => hq ⟨e.1, by omega, by omega⟩)]
