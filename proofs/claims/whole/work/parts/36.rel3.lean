/-! THE RELATION of class and model between two calls, and what it gives at once. -/
/-- the secrets agree -/
def RS (g : T3) : Prop := g 3 1 2 = g 20 0 22 ∧ g 3 1 2 ≤ 8 ∧ (∀ j, j < g 3 1 2 → g 13 j 0 = g 37 0 j ∧ g 13 j 1 = g 38 0 j ∧ ∀ q, q < 3 → g 14 j q = g 39 0 (3 * j + q)) ∧ (0 < g 3 1 2 → 0 < g 3 0 2)
/-- the last start agrees -/
def RL9 (g : T3) : Prop := g 5 0 2 = g 20 0 23 ∧ (∀ q, q < g 20 0 23 → g 7 0 q = g 32 0 q) ∧ (∀ q, q < 3 → g 6 0 q = g 33 0 q) ∧ g 20 0 24 = cRun g ∧ (∀ q, q < g 5 0 5 → g 8 0 q = g 30 0 q ∧ g 9 0 q = g 31 0 q) ∧ g 5 0 5 ≤ g 3 0 2 ∧ (g 0 0 6 = 114 → g 5 0 5 = g 3 0 2)
/-- the stages that are not yet there -/
def RZ (g : T3) : Prop := ∀ i, g 3 0 2 ≤ i → i < 6 → g 25 0 i = 0 ∧ g 26 0 i = 0 ∧ ∀ s, s < 2 → g 27 0 (2 * i + s) = 0
def Rel (g : T3) : Prop := RB g ∧ RS g ∧ RL9 g ∧ RZ g ∧ (∀ j, j < 5 → g 2 0 j = g 23 0 j) ∧ g 0 0 6 = g 20 0 19 ∧ (g 0 0 6 = 111 ∨ g 0 0 6 = 114 ∨ g 0 0 6 = 104) ∧ g 0 0 7 = g 20 0 25
theorem oth_eq {g gc gm : T3} {p b j : Nat} (hS : RS g) (hj : j < g 3 1 2) (h13 : gc 13 j 0 = g 13 j 0) (h14 : ∀ q, gc 14 j q = g 14 j q) (h37 : gm 37 0 j = g 37 0 j) (h39 : ∀ q, gm 39 0 q = g 39 0 q) (h6 : ∀ q, q < 3 → gc 6 p q = bV gm b q) : oth gc j p = mOt gm j b := by
  obtain ⟨a1, -, a3⟩ := hS.2.2.1 j hj
  refine sumN_congr fun q hq => ?_
  rw [h13, h14, h37, h39, h6 q hq, a1, a3 q hq]
theorem isO_iff {g : T3} (h : Rel g) {j : Nat} (hj : j < g 3 1 2) : isO g j ↔ mO g j := by
  obtain ⟨-, hS, hL, -, -, h6, -⟩ := h
  have e := oth_eq (gc := g) (gm := g) (p := 0) (b := 0) hS hj rfl (fun _ => rfl) rfl (fun _ => rfl) (fun q hq => hL.2.2.1 q hq)
  unfold isO mO
  rw [e, h6]
theorem cAg_eq {g : T3} (h : ∀ j, j < 5 → g 2 0 j = g 23 0 j) : cAg g = mAg g := sumN_congr fun q hq => by rw [h q hq]
theorem rbl_eq {g : T3} (h : Rel g) {r : Nat} : ∀ k, k ≤ g 5 0 2 → rbl g 0 r k = mrb g r k
  | 0, _ => rfl
  | k + 1, hk => by
    obtain ⟨e2, e7, -⟩ := h.2.2.1
    have h1 := rbl_eq (r := r) h k (by omega)
    show (if g 7 0 k / 1000 = r then (31 * rbl g 0 r k + g 7 0 k % 1000 + 1) % 9973 else rbl g 0 r k) = (if g 32 0 k / 1000 = r then (31 * mrb g r k + g 32 0 k % 1000 + 1) % 9973 else mrb g r k)
    rw [h1, e7 k (by omega)]
theorem cOp_eq {g : T3} (h : Rel g) : cOp g (g 3 1 2) = mOp g (g 20 0 22) := by
  rw [← h.2.1.1]
  refine sumN_congr fun q hq => ?_
  have e := isO_iff h hq
  by_cases h9 : g 0 0 6 = 114 ∧ oth g q 0 = 0
  · rw [if_pos h9, if_pos (show g 20 0 19 = 114 ∧ mOt g q 0 = 0 from e.mp h9)]
  · rw [if_neg h9, if_neg (show ¬ (g 20 0 19 = 114 ∧ mOt g q 0 = 0) from fun h8 => h9 (e.mpr h8))]
theorem sVer_eq {g : T3} (h : Rel g) : sVer g (cRun g) = mVe g (g 20 0 24) := by
  rw [h.2.2.1.2.2.2.1]
  refine sumN_congr fun q hq => ?_
  have hq : q < g 5 0 5 := by
    unfold cRun at hq
    split at hq
    · omega
    · exact hq
  exact (h.2.2.1.2.2.2.2.1 q hq).2
theorem jg_rel {g : T3} (h : Rel g) {i s : Nat} (hi : i < g 3 0 2) (hs : s < 2) : jg g i s = mRe (up g 20 0 20 0) i s :=
  jg_eq h.1 (CF.rf g) ((MF.rf g).up (Or.inr ⟨rfl, Or.inl rfl⟩)) hi hs
theorem cmt_eq {g : T3} (h : Rel g) (h6 : g 0 0 6 = 114) : ∀ k, k ≤ g 3 0 2 → (cmt g k).1 = (mCm (up g 20 0 20 0) k).1 ∧ (∀ i, i < g 3 0 2 → (cmt g k).2 10 i 3 = (mCm (up g 20 0 20 0) k).2 26 0 i) ∧
    (∀ a b q, ¬ (a = 10 ∧ q = 3) → (cmt g k).2 a b q = g a b q) ∧ (∀ a b q, ¬ a = 26 → (mCm (up g 20 0 20 0) k).2 a b q = up g 20 0 20 0 a b q) ∧ ∀ i, g 3 0 2 ≤ i → (mCm (up g 20 0 20 0) k).2 26 0 i = g 26 0 i := by
  obtain ⟨hR, -, hL, -⟩ := id h
  intro k
  induction k with
  | zero => exact fun _ => ⟨rfl, fun i hi => (hR.2.2.2 i hi).2.2.1, fun _ _ _ _ => rfl, fun _ _ _ _ => rfl, fun _ _ => rfl⟩
  | succ k ih =>
    intro hk
    obtain ⟨i1, i2, i3, i4, i5⟩ := ih (by omega)
    have e9 : (cmt g k).2 9 0 k = (mCm (up g 20 0 20 0) k).2 31 0 k := by
      rw [i3 9 0 k (by omega), i4 31 0 k (by decide)]
      exact (hL.2.2.2.2.1 k (by have := hL.2.2.2.2.2.2 h6; omega)).2
    have ek := i2 k (by omega)
    by_cases z : (cmt g k).2 9 0 k ≤ (cmt g k).2 10 k 3
    · rw [cmt_0 z, mCm_0 (by rw [← e9, ← ek]; exact z)]
      exact ⟨i1, i2, i3, i4, i5⟩
    · rw [cmt_1 z, mCm_1 (by rw [← e9, ← ek]; exact z)]
      refine ⟨by show _ + 1 = _ + 1; rw [i1], fun i hi => ?_, fun a b q hq => ?_, fun a b q hq => ?_, fun i hi => ?_⟩
      · show up _ 10 k 3 _ 10 i 3 = up _ 26 0 k _ 26 0 i
        rw [up_at, up_at, e9]
        by_cases y : i = k
        · rw [if_pos ⟨rfl, y, rfl⟩, if_pos ⟨rfl, rfl, y⟩]
        · rw [if_neg (fun h => y h.2.1), if_neg (fun h => y h.2.2)]
          exact i2 i hi
      · show up _ 10 k 3 _ a b q = _
        rw [up_at, if_neg (fun h => hq ⟨h.1, h.2.2⟩)]
        exact i3 a b q hq
      · show up _ 26 0 k _ a b q = _
        rw [up_at, if_neg (fun h => hq h.1)]
        exact i4 a b q hq
      · show up _ 26 0 k _ 26 0 i = _
        rw [up_at, if_neg (fun h => by have := h.2.2; omega)]
        exact i5 i hi
