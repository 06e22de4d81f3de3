/-! A START SIDE BY SIDE: a slot, a stage, the loop. -/
theorem CFadr {g gc : T3} (h : CF g gc) {p s v f k : Nat} (hk : gc 5 p 5 = k) (hk6 : k < 6) : CF g (adr gc p s v f) := by
  unfold adr
  rw [adr0_eq hk hk6]
  have h1 : CF g (up (up (up gc 8 p k s) 9 p k v) 5 p 5 (k + 1)) := ((h.up (by decide)).up (by decide)).up (by decide)
  split
  · exact h1
  · exact h1.up (by decide)
theorem adr_fr {g : T3} {p s v f k : Nat} (hk : g 5 p 5 = k) (hk6 : k < 6) : (∀ a j, a = 6 ∨ a = 7 → adr g p s v f a p j = g a p j) ∧ adr g p s v f 5 p 2 = g 5 p 2 := by
  have h1 : (∀ a j, a = 6 ∨ a = 7 → adr0 g p s v a p j = g a p j) ∧ adr0 g p s v 5 p 2 = g 5 p 2 := by
    rw [adr0_eq hk hk6]
    refine ⟨fun a j h => ?_, ?_⟩
    · rcases h with rfl | rfl <;> rfl
    · rw [up_at, if_neg (fun h => absurd h.2.2 (by decide))]; rfl
  unfold adr
  by_cases hf : f = 0
  · rw [if_pos hf]; exact h1
  · rw [if_neg hf]
    refine ⟨fun a j h => ?_, ?_⟩
    · refine Eq.trans ?_ (h1.1 a j h)
      rcases h with rfl | rfl <;> rfl
    · rw [up_at, if_neg (fun h => absurd h.2.2 (by decide))]; exact h1.2
theorem sim_slot {g gc gm : T3} {p k s : Nat} (hR : RB g) (hc : CF g gc) (hm : MF g gm) (hk : k < g 3 0 2) (hs : s < 2) (hT : Tg p gc gm) (he : gc 5 p 2 < 12) (hU : Ug p gc gm k) :
    (sSlot gc k s p).1 = (mTr gm k s).1 ∧ CF g (sSlot gc k s p).2 ∧ MF g (mTr gm k s).2 ∧ Tg p (sSlot gc k s p).2 (mTr gm k s).2 ∧ (sSlot gc k s p).2 5 p 2 ≤ gc 5 p 2 + 1 ∧
    ((mTr gm k s).1 = 0 → Ug p (sSlot gc k s p).2 (mTr gm k s).2 k) ∧ (¬ (mTr gm k s).1 = 0 → Vg p (sSlot gc k s p).2 (mTr gm k s).2 (k + 1) (if s = g 25 0 k then 0 else 1)) := by
  have hj := jg_eq hR hc hm hk hs
  obtain ⟨-, -, hn6, hst⟩ := id hR
  obtain ⟨hreg, hact, -, hr2, -, hsl⟩ := hst k hk
  obtain ⟨-, hn⟩ := hsl s hs
  have m24 : gm 24 0 k = g 24 0 k := hm 24 0 k (by decide) (by omega)
  have m29 : gm 29 0 (2 * k + s) = g 29 0 (2 * k + s) := hm 29 0 _ (by decide) (by omega)
  have m28 : gm 28 0 (2 * k + s) = g 28 0 (2 * k + s) := hm 28 0 _ (by decide) (by omega)
  have c10 : gc 10 k 0 = gm 24 0 k := by rw [hc 10 k 0 (by decide), m24, hreg]
  by_cases h0 : gc 11 k s = 0
  · have e1 : mRe gm k s = 101 := by rw [← hj]; unfold jg; rw [if_pos h0]
    unfold sSlot mTr
    rw [if_pos h0, e1, if_neg (by decide), if_neg (by decide)]
    exact ⟨rfl, hc, hm, hT, Nat.le_succ _, fun _ => hU, fun h => absurd rfl h⟩
  · obtain ⟨-, n1, n2, -⟩ := hn (by rw [← hc 11 k s (by decide)]; exact h0)
    have c12 : gc 12 (2 * k + s) 2 = gm 29 0 (2 * k + s) := by rw [hc 12 _ 2 (by decide), m29, n2]
    have c121 : ∀ q, gc 12 (2 * k + s) q = g 12 (2 * k + s) q := fun q => hc 12 _ q (by decide)
    unfold sSlot mTr
    rw [if_neg h0, hj, c10, c12]
    have hT1 := hT.adm he (i := k) (s := s) (by omega)
    have hU1 : Ug p (adm gc p (gm 24 0 k) (gm 29 0 (2 * k + s))) (mMe gm k s) k := hU.adm he
    have hc1 : CF g (adm gc p (gm 24 0 k) (gm 29 0 (2 * k + s))) := hc.adm he
    have hm1 := hm.me k s
    have h52 : adm gc p (gm 24 0 k) (gm 29 0 (2 * k + s)) 5 p 2 = gc 5 p 2 + 1 := adm_52 he
    by_cases h45 : mRe gm k s = 45
    · rw [if_pos h45, if_neg (by rw [h45]; decide), if_pos h45]
      have hv : adm gc p (gm 24 0 k) (gm 29 0 (2 * k + s)) 12 (2 * k + s) 1 = mMe gm k s 28 0 (2 * k + s) := by
        rw [hc1 12 _ 1 (by decide), n1, hm1 28 0 _ (by decide) (by omega)]
      have ha : adm gc p (gm 24 0 k) (gm 29 0 (2 * k + s)) 10 k 2 = g 25 0 k := by rw [hc1 10 k 2 (by decide), hact]
      show _ ∧ CF g (adr _ p s _ _) ∧ MF g (up (mMe gm k s) 34 0 k s) ∧ Tg p (adr _ p s _ _) (up (mMe gm k s) 34 0 k s) ∧ _
      have hfr := adr_fr (g := adm gc p (gm 24 0 k) (gm 29 0 (2 * k + s))) (s := s) (v := adm gc p (gm 24 0 k) (gm 29 0 (2 * k + s)) 12 (2 * k + s) 1) (f := if s = adm gc p (gm 24 0 k) (gm 29 0 (2 * k + s)) 10 k 2 then 0 else 1) hU1.1 (by omega)
      refine ⟨rfl, CFadr hc1 hU1.1 (by omega), hm1.up (Or.inl (by decide)), ⟨?_, fun q hq => ?_, fun q hq => ?_⟩, ?_, fun h => absurd h Nat.one_ne_zero, fun _ => ?_⟩
      · rw [hfr.2]; exact hT1.1
      · rw [hfr.1 7 q (Or.inr rfl)]; exact hT1.2.1 q hq
      · rw [hfr.1 6 q (Or.inl rfl)]; exact hT1.2.2 q hq
      · show adr _ p s _ _ 5 p 2 ≤ _
        rw [hfr.2, h52]; exact Nat.le_refl _
      · rw [← ha]
        exact hU1.run (by omega) hv (by split <;> decide)
    · rw [if_neg h45]
      by_cases h98 : mRe gm k s = 98
      · rw [if_pos h98, if_pos h98]
        exact ⟨rfl, hc1, hm1, hT1, Nat.le_of_eq h52, fun _ => hU1, fun h => absurd rfl h⟩
      · rw [if_neg h98, if_neg h98, if_neg h45]
        exact ⟨rfl, hc, hm, hT, Nat.le_succ _, fun _ => hU, fun h => absurd rfl h⟩
theorem sim_stage {g gc gm : T3} {p k : Nat} (hR : RB g) (hc : CF g gc) (hm : MF g gm) (hk : k < g 3 0 2) (hT : Tg p gc gm) (he : gc 5 p 2 ≤ 2 * k) (hU : Ug p gc gm k) :
    (sStage gc k p).1 = (mSt gm k).1 ∧ CF g (sStage gc k p).2 ∧ MF g (mSt gm k).2 ∧ Tg p (sStage gc k p).2 (mSt gm k).2 ∧ (sStage gc k p).2 5 p 2 ≤ 2 * (k + 1) ∧
    ((mSt gm k).1 = 0 → Ug p (sStage gc k p).2 (mSt gm k).2 k) ∧ (¬ (mSt gm k).1 = 0 → Ug p (sStage gc k p).2 (mSt gm k).2 (k + 1)) := by
  obtain ⟨-, -, hn6, hst⟩ := id hR
  obtain ⟨-, hact, -, -, ha1, -⟩ := hst k hk
  have m25 : gm 25 0 k = g 25 0 k := hm 25 0 k (by decide) (by omega)
  have c10 : gc 10 k 2 = g 25 0 k := by rw [hc 10 k 2 (by decide), hact]
  obtain ⟨a1, a2, a3, a4, a5, a6, a7⟩ := sim_slot (s := g 25 0 k) hR hc hm hk (by omega) hT (by omega) hU
  unfold sStage mSt
  rw [c10, m25]
  by_cases z : (mTr gm k (g 25 0 k)).1 = 0
  · rw [if_pos (a1.trans z), if_pos z]
    have esp : (if (sSlot gc k (g 25 0 k) p).2 10 k 2 = 0 then 1 else 0) = 1 - g 25 0 k := by
      rw [a2 10 k 2 (by decide), hact]
      split <;> omega
    rw [esp]
    obtain ⟨b1, b2, b3, b4, b5, b6, b7⟩ := sim_slot (s := 1 - g 25 0 k) hR a2 a3 hk (by omega) a4 (by omega) (a6 z)
    by_cases y : (mTr (mTr gm k (g 25 0 k)).2 k (1 - g 25 0 k)).1 = 0
    · rw [if_pos y]
      exact ⟨b1.trans y, b2, b3, b4, by omega, fun _ => b6 y, fun h => absurd rfl h⟩
    · rw [if_neg y]
      have h1 := mTr_le (mTr gm k (g 25 0 k)).2 k (1 - g 25 0 k)
      have hV := b7 y
      rw [if_neg (by omega)] at hV
      exact ⟨by rw [b1]; show _ = 1; omega, b2, b3.up (Or.inr ⟨rfl, Or.inr (Or.inr (Or.inr rfl))⟩), ⟨b4.1, b4.2.1, b4.2.2⟩, by omega, fun h => absurd h Nat.one_ne_zero, fun _ => ⟨hV.1, hV.2.1, hV.2.2⟩⟩
  · rw [if_neg (fun h => z (a1.symm.trans h)), if_neg z]
    have hV := a7 z
    rw [if_pos rfl] at hV
    exact ⟨rfl, a2, a3, a4, by show (sSlot gc k (g 25 0 k) p).2 5 p 2 ≤ _; omega, fun h => absurd h Nat.one_ne_zero, fun _ => ⟨hV.1, hV.2.1, hV.2.2⟩⟩
theorem mSt_27 (g : T3) (k : Nat) : (mSt g k).2 20 0 27 = g 20 0 27 := by
  unfold mSt
  split
  · split
    · show (mTr _ _ _).2 20 0 27 = _
      rw [mTr_fr (by decide) (by decide) (by decide) (by decide), mTr_fr (by decide) (by decide) (by decide) (by decide)]
    · show (mTr _ _ _).2 20 0 27 = _
      rw [mTr_fr (by decide) (by decide) (by decide) (by decide), mTr_fr (by decide) (by decide) (by decide) (by decide)]
  · show (mTr _ _ _).2 20 0 27 = _
    rw [mTr_fr (by decide) (by decide) (by decide) (by decide)]
theorem sim_loop {g g0 m0 : T3} {p : Nat} (hR : RB g) (hc : CF g g0) (hm : MF g m0) (hT : Tg p g0 m0) (he : g0 5 p 2 = 0) (hU : Ug p g0 m0 0) (h27 : m0 20 0 27 = 0) : ∀ k, k ≤ g 3 0 2 →
    (sLoop g0 p k).1 = (mLp m0 k).1 ∧ CF g (sLoop g0 p k).2 ∧ MF g (mLp m0 k).2 ∧ Tg p (sLoop g0 p k).2 (mLp m0 k).2 ∧ (sLoop g0 p k).2 5 p 2 ≤ 2 * k ∧
    ∃ j, Ug p (sLoop g0 p k).2 (mLp m0 k).2 j ∧ (mLp m0 k).2 20 0 27 = j ∧ (¬ (mLp m0 k).1 = 0 → j = k) ∧ ((mLp m0 k).1 = 0 → j < k) := by
  intro k
  induction k with
  | zero => exact fun _ => ⟨rfl, hc, hm, hT, by show g0 5 p 2 ≤ _; omega, 0, hU, h27, fun _ => rfl, fun h => absurd h Nat.one_ne_zero⟩
  | succ k ih =>
    intro hk
    obtain ⟨i1, i2, i3, i4, i5, j, i6, i7, i8, i9⟩ := ih (by omega)
    by_cases z : (mLp m0 k).1 = 0
    · have e1 : sLoop g0 p (k + 1) = sLoop g0 p k := if_pos (i1.trans z)
      have e2 : mLp m0 (k + 1) = mLp m0 k := if_pos z
      rw [e1, e2]
      exact ⟨i1, i2, i3, i4, by omega, j, i6, i7, fun h => absurd z h, fun h => Nat.lt_succ_of_lt (i9 h)⟩
    · obtain rfl := i8 z
      have e1 : sLoop g0 p (j + 1) = sStage (sLoop g0 p j).2 j p := sLoop_s (fun h => z (i1.symm.trans h))
      obtain ⟨s1, s2, s3, s4, s5, s6, s7⟩ := sim_stage hR i2 i3 (by omega) i4 i5 i6
      by_cases y : (mSt (mLp m0 j).2 j).1 = 0
      · have e2 : mLp m0 (j + 1) = (0, (mSt (mLp m0 j).2 j).2) := (if_neg z).trans (if_pos y)
        rw [e1, e2]
        exact ⟨s1.trans y, s2, s3, s4, s5, j, s6 y, (mSt_27 _ _).trans i7, fun h => absurd rfl h, fun _ => Nat.lt_succ_self _⟩
      · have e2 : mLp m0 (j + 1) = (1, up (mSt (mLp m0 j).2 j).2 20 0 27 (j + 1)) := (if_neg z).trans (if_neg y)
        rw [e1, e2]
        have h1 : (mSt (mLp m0 j).2 j).1 ≤ 1 := by rw [← s1]; exact sStage_le _ _ _
        have hU9 := s7 y
        exact ⟨by rw [s1]; show _ = 1; omega, s2, s3.up (Or.inr ⟨rfl, Or.inr (Or.inr (Or.inl rfl))⟩), ⟨s4.1, s4.2.1, s4.2.2⟩, s5, j + 1, ⟨hU9.1, hU9.2.1, hU9.2.2⟩, rfl, fun _ => rfl, fun h => absurd h Nat.one_ne_zero⟩
theorem sim_go {g h0 : T3} (p : Nat) (hR : RB g) (hm0 : MF g h0) : CF g (sInto g p) ∧ MF g (mGo h0).2 ∧ Tg p (sInto g p) (mGo h0).2 ∧ ∃ j, Ug p (sInto g p) (mGo h0).2 j ∧ (mGo h0).2 20 0 27 = j ∧ j ≤ g 3 0 2 ∧
    (¬ (mGo h0).1 = 0 → j = g 3 0 2 ∧ ¬ g 3 0 2 = 0) ∧ ((mGo h0).1 = 0 → j < g 3 0 2 ∨ g 3 0 2 = 0) := by
  have hc : CF g (clr g p) := (((((CF.rf g).up (k := 6) (by decide)).up (k := 6) (by decide)).up (k := 6) (by decide)).up (k := 5) (by decide)).up (k := 5) (by decide) |>.up (k := 5) (by decide)
  have hm : MF g (mClr h0) := (((((hm0.up (k := 20) (j := 26) (Or.inr ⟨rfl, Or.inr (Or.inl rfl)⟩)).up (k := 20) (j := 28) (Or.inr ⟨rfl, Or.inr (Or.inr (Or.inr rfl))⟩)).up (k := 36) (Or.inl (by decide))).up (k := 36) (Or.inl (by decide))).up (k := 36) (Or.inl (by decide))).up (k := 20) (j := 27) (Or.inr ⟨rfl, Or.inr (Or.inr (Or.inl rfl))⟩)
  have c52 : clr g p 5 p 2 = 0 := by
    unfold clr
    rw [up_at, if_neg (fun h => absurd h.2.2 (by decide)), up_at, if_neg (fun h => absurd h.2.2 (by decide)), up_at, if_pos ⟨rfl, rfl, rfl⟩]
  have c55 : clr g p 5 p 5 = 0 := by
    unfold clr
    rw [up_at, if_neg (fun h => absurd h.2.2 (by decide)), up_at, if_pos ⟨rfl, rfl, rfl⟩]
  have c56 : clr g p 5 p 6 = 0 := by
    unfold clr
    rw [up_at, if_pos ⟨rfl, rfl, rfl⟩]
  have c6 : ∀ q, q < 3 → clr g p 6 p q = mClr h0 36 0 q := fun q hq => by
    show up (up (up g 6 p 0 0) 6 p 1 0) 6 p 2 0 6 p q = up (up (up _ 36 0 0 0) 36 0 1 0) 36 0 2 0 36 0 q
    rcases (show q = 0 ∨ q = 1 ∨ q = 2 by omega) with rfl | rfl | rfl <;> simp [up_at]
  have hL := sim_loop hR hc hm ⟨c52, fun q hq => absurd (show q < 0 from hq) (by omega), c6⟩ c52 ⟨c55, fun q hq => absurd hq (by omega), c56⟩ rfl (g 3 0 2) (Nat.le_refl _)
  obtain ⟨h1, h2, h3, h4, -, j, h6, h7, h8, h9⟩ := hL
  have en : h0 20 0 21 = g 3 0 2 := (hm0 20 0 21 (by decide) (by omega)).trans hR.2.1.symm
  unfold mGo sInto
  rw [en]
  refine ⟨h2, h3, h4, j, h6, h7, ?_, fun h => ?_, fun h => ?_⟩
  · by_cases z : (mLp (mClr h0) (g 3 0 2)).1 = 0
    · exact Nat.le_of_lt (h9 z)
    · exact Nat.le_of_eq (h8 z)
  · by_cases z : (mLp (mClr h0) (g 3 0 2)).1 = 0 ∨ g 3 0 2 = 0
    · exact absurd (if_pos z) h
    · exact ⟨h8 (fun h => z (Or.inl h)), fun h => z (Or.inr h)⟩
  · by_cases z : (mLp (mClr h0) (g 3 0 2)).1 = 0
    · exact Or.inl (h9 z)
    · by_cases y : g 3 0 2 = 0
      · exact Or.inr y
      · exact absurd ((if_neg (fun h => h.elim z y)).symm.trans h) Nat.one_ne_zero
