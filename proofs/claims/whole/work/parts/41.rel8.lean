/-! THE RELATION after a start. -/
theorem Rel_start {g h0 : T3} (h : Rel g) (hn : 0 < g 3 0 2) (Hc : ∀ a r x, a < 20 → h0 a r x = up (stF g) 0 0 6 (if stF g 5 0 5 = stF g 3 0 2 then 114 else 104) a r x) (Hm : ∀ k i j, 20 ≤ k → k < 40 → ¬ (k = 20 ∧ j = 20) → h0 k i j = g k i j) (hE : mStt (mGo h0) 20 0 23 ≤ 12) :
    (if stF g 5 0 5 = stF g 3 0 2 then 1 else 0) = (mGo h0).1 ∧ Rel (mStt (mGo h0)) := by
  obtain ⟨hR, hS, hL, hZ, hA, h6, -, h7⟩ := h
  have hmf : MF g h0 := fun k i j h1 h2 => Hm k i j (by omega) (by omega) (by omega)
  obtain ⟨cf, mf, tg, j, ug, m27, jn, f1, f0⟩ := sim_go 0 hR hmf
  have s55 : stF g 5 0 5 = j := ug.1
  have s32 : stF g 3 0 2 = g 3 0 2 := cf 3 0 2 (by decide)
  have le1 := mGo_le h0
  have hiff : j = g 3 0 2 ↔ ¬ (mGo h0).1 = 0 := ⟨fun e z => (f0 z).elim (fun h => by omega) (fun h => by omega), fun z => (f1 z).1⟩
  rw [s55, s32] at Hc ⊢
  refine ⟨?_, ?_⟩
  · by_cases z : (mGo h0).1 = 0
    · rw [if_neg (fun e => hiff.mp e z), z]
    · rw [if_pos (hiff.mpr z)]; omega
  have eA : ∀ a r x, ¬ a = 20 → mA (mGo h0) a r x = (mGo h0).2 a r x := fun a r x ha => by
    unfold mA
    rw [up_at, if_neg (fun e => ha e.1), up_at, if_neg (fun e => ha e.1), up_at, if_neg (fun e => ha e.1), up_at, if_neg (fun e => ha e.1)]
  have eF : ∀ a r x, ¬ (30 ≤ a ∧ a ≤ 33) → mStt (mGo h0) a r x = mA (mGo h0) a r x := fun a r x ha => by
    unfold mStt
    rw [cpR_at, if_neg (by omega), if_neg (by omega), cpV_at, if_neg (by omega), cpL_at, if_neg (by omega)]
  have F0 : ∀ a r x, a < 20 → mStt (mGo h0) a r x = up (stF g) 0 0 6 (if j = g 3 0 2 then 114 else 104) a r x := fun a r x ha => by
    rw [eF a r x (by omega), eA a r x (by omega), mGo_fr (by omega) (by omega) (by omega) (by omega), Hc a r x ha]
  have C : ∀ a r x, a < 20 → ¬ (5 ≤ a ∧ a ≤ 9) → ¬ a = 0 → mStt (mGo h0) a r x = g a r x := fun a r x h1 h2 h3 => by
    rw [F0 a r x h1]
    unfold stF
    rw [up_at, if_neg (fun e => h3 e.1), up_at, if_neg (fun e => h3 e.1)]
    exact cf a r x h2
  have P : ∀ a x, 5 ≤ a → a ≤ 9 → mStt (mGo h0) a 0 x = sInto g 0 a 0 x := fun a x h1 h2 => by
    rw [F0 a 0 x (by omega)]
    unfold stF
    rw [up_at, if_neg (by omega), up_at, if_neg (by omega)]
  have MM : ∀ a x, 21 ≤ a → a < 40 → ¬ (30 ≤ a ∧ a ≤ 36) → mStt (mGo h0) a 0 x = g a 0 x := fun a x h1 h2 h3 => by
    rw [eF a 0 x (by omega), eA a 0 x (by omega), mGo_fr (by omega) (by omega) (by omega) (by omega), Hm a 0 x (by omega) h2 (by omega)]
  have a06 : mStt (mGo h0) 0 0 6 = if j = g 3 0 2 then 114 else 104 := by rw [F0 0 0 6 (by decide)]; rfl
  have a07 : mStt (mGo h0) 0 0 7 = g 0 0 7 + sInto g 0 5 0 6 := by
    rw [F0 0 0 7 (by decide)]
    show sInto g 0 0 0 7 + _ = _
    rw [cf 0 0 7 (by decide)]
  have m19 : mStt (mGo h0) 20 0 19 = if (mGo h0).1 = 0 then 104 else 114 := by rw [eF 20 0 19 (by omega)]; rfl
  have m21 : mStt (mGo h0) 20 0 21 = g 20 0 21 := by rw [eF 20 0 21 (by omega)]; exact mf 20 0 21 (by decide) (by omega)
  have m22 : mStt (mGo h0) 20 0 22 = g 20 0 22 := by rw [eF 20 0 22 (by omega)]; exact mf 20 0 22 (by decide) (by omega)
  have m23 : mStt (mGo h0) 20 0 23 = (mGo h0).2 20 0 26 := by rw [eF 20 0 23 (by omega)]; rfl
  have m24 : mStt (mGo h0) 20 0 24 = j := by rw [eF 20 0 24 (by omega), ← m27]; rfl
  have m25 : mStt (mGo h0) 20 0 25 = g 20 0 25 + (mGo h0).2 20 0 28 := by
    rw [eF 20 0 25 (by omega)]
    show (mGo h0).2 20 0 25 + (mGo h0).2 20 0 28 = _
    rw [mf 20 0 25 (by decide) (by omega)]
  have eA35 : ∀ a x, 30 ≤ a → a ≤ 36 → mA (mGo h0) a 0 x = (mGo h0).2 a 0 x := fun a x h1 h2 => eA a 0 x (by omega)
  have k30 : ∀ q, q < j → mStt (mGo h0) 30 0 q = (mGo h0).2 34 0 q ∧ mStt (mGo h0) 31 0 q = (mGo h0).2 28 0 (2 * q + (mGo h0).2 34 0 q) := fun q hq => by
    have e1 : ∀ a x, ¬ (30 ≤ a ∧ a ≤ 33) → ¬ a = 20 → cpV (cpL (mA (mGo h0)) 12) 3 a 0 x = (mGo h0).2 a 0 x := fun a x h1 h2 => by rw [cpV_at, if_neg (by omega), cpL_at, if_neg (by omega), eA a 0 x h2]
    unfold mStt
    rw [m27, cpR_at, cpR_at, if_pos ⟨rfl, rfl, hq⟩, if_neg (by omega), if_pos ⟨rfl, rfl, hq⟩, e1 34 q (by omega) (by omega), e1 28 _ (by omega) (by omega)]
    exact ⟨rfl, rfl⟩
  have k32 : ∀ q, q < 12 → mStt (mGo h0) 32 0 q = (mGo h0).2 35 0 q := fun q hq => by
    unfold mStt
    rw [cpR_at, if_neg (by omega), if_neg (by omega), cpV_at, if_neg (by omega), cpL_at, if_pos ⟨rfl, rfl, hq⟩, eA 35 0 q (by omega)]
  have k33 : ∀ q, q < 3 → mStt (mGo h0) 33 0 q = (mGo h0).2 36 0 q := fun q hq => by
    unfold mStt
    rw [cpR_at, if_neg (by omega), if_neg (by omega), cpV_at, if_pos ⟨rfl, rfl, hq⟩, cpL_at, if_neg (by omega), eA 36 0 q (by omega)]
  have c1 := fun x => C 1 0 x (by decide) (by omega) (by omega)
  have c2 := fun x => C 2 0 x (by decide) (by omega) (by omega)
  have c3 := fun i x => C 3 i x (by decide) (by omega) (by omega)
  have c10 := fun i x => C 10 i x (by decide) (by omega) (by omega)
  have c11 := fun i x => C 11 i x (by decide) (by omega) (by omega)
  have c12 := fun i x => C 12 i x (by decide) (by omega) (by omega)
  have c13 := fun i x => C 13 i x (by decide) (by omega) (by omega)
  have c14 := fun i x => C 14 i x (by decide) (by omega) (by omega)
  have q21 := fun x => MM 21 x (by decide) (by decide) (by omega)
  have q22 := fun x => MM 22 x (by decide) (by decide) (by omega)
  have q23 := fun x => MM 23 x (by decide) (by decide) (by omega)
  have q24 := fun x => MM 24 x (by decide) (by decide) (by omega)
  have q25 := fun x => MM 25 x (by decide) (by decide) (by omega)
  have q26 := fun x => MM 26 x (by decide) (by decide) (by omega)
  have q27 := fun x => MM 27 x (by decide) (by decide) (by omega)
  have q28 := fun x => MM 28 x (by decide) (by decide) (by omega)
  have q29 := fun x => MM 29 x (by decide) (by decide) (by omega)
  have q37 := fun x => MM 37 x (by decide) (by decide) (by omega)
  have q38 := fun x => MM 38 x (by decide) (by decide) (by omega)
  have q39 := fun x => MM 39 x (by decide) (by decide) (by omega)
  refine ⟨?_, ?_, ⟨?_, fun q hq => ?_, fun q hq => ?_, ?_, fun q hq => ?_, ?_, fun hs => ?_⟩, ?_, fun q hq => ?_, ?_, ?_, ?_⟩
  · unfold RB Sl at hR ⊢
    simp only [c1, c3, c10, c11, c12, m21, q21, q22, q24, q25, q26, q27, q28, q29]
    exact hR
  · unfold RS at hS ⊢
    simp only [c3, c13, c14, m22, q37, q38, q39]
    exact hS
  · rw [P 5 2 (by decide) (by decide), m23]; exact tg.1
  · rw [P 7 q (by decide) (by decide), k32 q (by omega)]
    exact tg.2.1 q (by rw [← m23]; exact hq)
  · rw [P 6 q (by decide) (by decide), k33 q hq]; exact tg.2.2 q hq
  · rw [m24]
    unfold cRun
    rw [a06, if_neg (by split <;> decide), P 5 5 (by decide) (by decide)]
    exact ug.1.symm
  · rw [P 5 5 (by decide) (by decide), ug.1] at hq
    rw [P 8 q (by decide) (by decide), P 9 q (by decide) (by decide), (k30 q hq).1, (k30 q hq).2]
    exact ug.2.1 q hq
  · rw [P 5 5 (by decide) (by decide), c3, ug.1]; exact jn
  · rw [P 5 5 (by decide) (by decide), c3, ug.1]
    rw [a06] at hs
    by_cases e : j = g 3 0 2
    · exact e
    · rw [if_neg e] at hs; exact absurd hs (by decide)
  · unfold RZ at hZ ⊢
    simp only [c3, q25, q26, q27]
    exact hZ
  · rw [c2, q23]; exact hA q hq
  · rw [a06, m19]
    by_cases z : (mGo h0).1 = 0
    · rw [if_neg (fun e => hiff.mp e z), if_pos z]
    · rw [if_pos (hiff.mpr z), if_neg z]
  · rw [a06]
    split
    · exact Or.inr (Or.inl rfl)
    · exact Or.inr (Or.inr rfl)
  · rw [a07, m25, h7, ug.2.2]
