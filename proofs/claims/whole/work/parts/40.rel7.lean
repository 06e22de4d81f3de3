/-! What a start of the model leaves alone, and what it copies. -/
theorem mSt_fr {g : T3} {i k r j : Nat} (h1 : k ≠ 35) (h2 : k ≠ 36) (h4 : k ≠ 34) (h3 : k ≠ 20) : (mSt g i).2 k r j = g k r j := by
  have f : ∀ (g : T3) (i s : Nat), (mTr g i s).2 k r j = g k r j := fun g i s => mTr_fr h1 h2 h4 (fun h => h3 h.1)
  unfold mSt
  split
  · split
    · show (mTr _ _ _).2 k r j = _
      rw [f, f]
    · show up (mTr _ _ _).2 20 0 28 _ k r j = _
      rw [up_at, if_neg (fun h => h3 h.1), f, f]
  · show (mTr _ _ _).2 k r j = _
    rw [f]
theorem mLp_fr {g : T3} {k r j : Nat} (h1 : k ≠ 35) (h2 : k ≠ 36) (h4 : k ≠ 34) (h3 : k ≠ 20) : ∀ n, (mLp g n).2 k r j = g k r j
  | 0 => rfl
  | n + 1 => by
    have ih := mLp_fr (g := g) (r := r) (j := j) h1 h2 h4 h3 n
    show (if (mLp g n).1 = 0 then mLp g n else if (mSt (mLp g n).2 n).1 = 0 then (0, (mSt (mLp g n).2 n).2) else (1, up (mSt (mLp g n).2 n).2 20 0 27 (n + 1))).2 k r j = _
    split
    · exact ih
    · split
      · exact (mSt_fr h1 h2 h4 h3).trans ih
      · show up (mSt (mLp g n).2 n).2 20 0 27 (n + 1) k r j = _
        rw [up_at, if_neg (fun h => h3 h.1)]
        exact (mSt_fr h1 h2 h4 h3).trans ih
theorem mGo_fr {g : T3} {k r j : Nat} (h1 : k ≠ 35) (h2 : k ≠ 36) (h4 : k ≠ 34) (h3 : k ≠ 20) : (mGo g).2 k r j = g k r j := by
  show (mLp (mClr g) (g 20 0 21)).2 k r j = _
  rw [mLp_fr h1 h2 h4 h3]
  show up (up (up (up (up (up g 20 0 26 0) 20 0 28 0) 36 0 0 0) 36 0 1 0) 36 0 2 0) 20 0 27 0 k r j = _
  rw [up_at, if_neg (fun h => h3 h.1), up_at, if_neg (fun h => h2 h.1), up_at, if_neg (fun h => h2 h.1), up_at, if_neg (fun h => h2 h.1), up_at, if_neg (fun h => h3 h.1), up_at, if_neg (fun h => h3 h.1)]
theorem cpL_at (h : T3) : ∀ n a r j, cpL h n a r j = if a = 32 ∧ r = 0 ∧ j < n then h 35 0 j else h a r j
  | 0, a, r, j => by rw [if_neg (fun e => by omega)]; rfl
  | n + 1, a, r, j => by
    show up (cpL h n) 32 0 n (cpL h n 35 0 n) a r j = _
    rw [up_at, cpL_at h n, cpL_at h n, if_neg (show ¬ (35 = 32 ∧ 0 = 0 ∧ n < n) by omega)]
    by_cases e : a = 32 ∧ r = 0 ∧ j = n
    · rw [if_pos e, if_pos ⟨e.1, e.2.1, by omega⟩, e.2.2]
    · rw [if_neg e]
      by_cases d : a = 32 ∧ r = 0 ∧ j < n
      · rw [if_pos d, if_pos ⟨d.1, d.2.1, by omega⟩]
      · rw [if_neg d, if_neg (fun c => by omega)]
theorem cpV_at (h : T3) : ∀ n a r j, cpV h n a r j = if a = 33 ∧ r = 0 ∧ j < n then h 36 0 j else h a r j
  | 0, a, r, j => by rw [if_neg (fun e => by omega)]; rfl
  | n + 1, a, r, j => by
    show up (cpV h n) 33 0 n (cpV h n 36 0 n) a r j = _
    rw [up_at, cpV_at h n, cpV_at h n, if_neg (show ¬ (36 = 33 ∧ 0 = 0 ∧ n < n) by omega)]
    by_cases e : a = 33 ∧ r = 0 ∧ j = n
    · rw [if_pos e, if_pos ⟨e.1, e.2.1, by omega⟩, e.2.2]
    · rw [if_neg e]
      by_cases d : a = 33 ∧ r = 0 ∧ j < n
      · rw [if_pos d, if_pos ⟨d.1, d.2.1, by omega⟩]
      · rw [if_neg d, if_neg (fun c => by omega)]
theorem cpR_at (h : T3) : ∀ n a r j, cpR h n a r j = if a = 30 ∧ r = 0 ∧ j < n then h 34 0 j else if a = 31 ∧ r = 0 ∧ j < n then h 28 0 (2 * j + h 34 0 j) else h a r j
  | 0, a, r, j => by rw [if_neg (fun e => by omega), if_neg (fun e => by omega)]; rfl
  | n + 1, a, r, j => by
    have e34 : ∀ q, cpR h n 34 0 q = h 34 0 q := fun q => by rw [cpR_at h n, if_neg (by omega), if_neg (by omega)]
    have e28 : ∀ q, cpR h n 28 0 q = h 28 0 q := fun q => by rw [cpR_at h n, if_neg (by omega), if_neg (by omega)]
    show up (up (cpR h n) 30 0 n (cpR h n 34 0 n)) 31 0 n (cpR h n 28 0 (2 * n + cpR h n 34 0 n)) a r j = _
    rw [up_at, up_at, e34, e28, cpR_at h n]
    by_cases e : a = 31 ∧ r = 0 ∧ j = n
    · rw [if_pos e, if_neg (by omega), if_pos ⟨e.1, e.2.1, by omega⟩, e.2.2]
    · rw [if_neg e]
      by_cases d : a = 30 ∧ r = 0 ∧ j = n
      · rw [if_pos d, if_pos ⟨d.1, d.2.1, by omega⟩, d.2.2]
      · rw [if_neg d]
        by_cases c1 : a = 30 ∧ r = 0 ∧ j < n
        · rw [if_pos c1, if_pos ⟨c1.1, c1.2.1, by omega⟩]
        · rw [if_neg c1, if_neg (show ¬ (a = 30 ∧ r = 0 ∧ j < n + 1) by omega)]
          by_cases c2 : a = 31 ∧ r = 0 ∧ j < n
          · rw [if_pos c2, if_pos ⟨c2.1, c2.2.1, by omega⟩]
          · rw [if_neg c2, if_neg (show ¬ (a = 31 ∧ r = 0 ∧ j < n + 1) by omega)]
