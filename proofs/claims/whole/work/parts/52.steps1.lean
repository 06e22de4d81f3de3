/-! THE STEPS: a call of the class and the same of the model, from states that agree: the same number thrown, the same answer, states that agree. -/
/-- a machine that runs has stages -/
def Kv (g : T3) : Prop := g 0 0 6 = 114 → 0 < g 3 0 2
def StN (g2 : T3) (r1 r2 : Int32) : Prop := ∃ k, k ≤ 3 ∧ r1 = nI k ∧ g2 20 0 20 = k ∧ (k = 0 → lN (g2 40 0 0) = r2.toInt64) ∧ Rel g2 ∧ Kv g2
def StB (g2 : T3) (r1 r2 : Int32) : Prop := ∃ k b, k ≤ 3 ∧ r1 = nI k ∧ g2 20 0 20 = k ∧ b ≤ 1 ∧ r2 = nI b ∧ (k = 0 → g2 40 0 0 = b) ∧ Rel g2 ∧ Kv g2
def StF (g2 : T3) (r1 : Int32) (r2 : UInt32) : Prop := ∃ k, k ≤ 3 ∧ r1 = nI k ∧ g2 20 0 20 = k ∧ (k = 0 → UInt64.ofNat (g2 41 0 0) = FP.f2d r2 ∧ ∃ a b, a < 9 ∧ b < 9 ∧ ¬ b = 0 ∧ r2 = FP.fdiv (FP.i2f (nI a)) (FP.i2f (nI b))) ∧ Rel g2 ∧ Kv g2
def StD (g2 : T3) (r1 : Int32) (r2 : UInt64) : Prop := ∃ k, k ≤ 3 ∧ r1 = nI k ∧ g2 20 0 20 = k ∧ (k = 0 → UInt64.ofNat (g2 41 0 0) = r2 ∧ ∃ a b, a < 595 ∧ b < 7 ∧ ¬ b = 0 ∧ r2 = FP.ddiv (FP.i2d (nI a)) (FP.i2d (nI b))) ∧ Rel g2 ∧ Kv g2
theorem nIe {a b : Nat} (ha : a < 1000000) (hb : b < 1000000) (h : nI a = nI b) : a = b := (nI_eq (by omega) (by omega)).mp h
theorem b01 {v : Nat} (h : v ≤ 1) : (if nI v = 0 then 0 else 1) = v := by
  rcases (show v = 0 ∨ v = 1 by omega) with rfl | rfl <;> decide
theorem Eq9_c {g g' : T3} (h : Eq9 g g') (k i j v : Nat) : Eq9 (up g k i j v) (up g' k i j v) := fun a b q h1 h2 h3 h4 => by
  rw [up_at, up_at]
  split
  · rfl
  · exact h a b q h1 h2 h3 h4
theorem Eq9_o (g : T3) (V w : Nat) : Eq9 g (up (up g 40 0 0 V) 20 0 20 w) := Eq9_up (Eq9_up (Eq9.rf g) (Or.inl (by decide))) (Or.inr (Or.inr (Or.inr ⟨rfl, Or.inl rfl⟩)))
theorem stN_x {g : T3} (h : Rel g) (hK : Kv g) {k : Nat} (hk : 1 ≤ k) (hk3 : k ≤ 3) (r2 : Int32) : StN (up g 20 0 20 k) (nI k) r2 := ⟨k, hk3, rfl, rfl, fun h9 => absurd h9 (by omega), Rel_th h k, hK⟩
theorem stB_x {g : T3} (h : Rel g) (hK : Kv g) {k : Nat} (hk : 1 ≤ k) (hk3 : k ≤ 3) : StB (up g 20 0 20 k) (nI k) (nI 0) := ⟨k, 0, hk3, rfl, rfl, by decide, rfl, fun h9 => absurd h9 (by omega), Rel_th h k, hK⟩
theorem stN_r {g : T3} (h : Rel g) (hK : Kv g) {n : Nat} {r : Int32} (hn : r.toInt64 = lN n) : StN (up (up g 40 0 0 n) 20 0 20 0) (nI 0) r := ⟨0, by decide, rfl, rfl, fun _ => hn.symm, Rel_th (Rel_out h 40 n (by decide)) 0, hK⟩
theorem mrb_o (g : T3) (r v : Nat) : ∀ k, mrb (up g 40 0 0 v) r k = mrb g r k
  | 0 => rfl
  | k + 1 => by
    show (if g 32 0 k / 1000 = r then (31 * mrb (up g 40 0 0 v) r k + g 32 0 k % 1000 + 1) % 9973 else mrb (up g 40 0 0 v) r k) = (if g 32 0 k / 1000 = r then (31 * mrb g r k + g 32 0 k % 1000 + 1) % 9973 else mrb g r k)
    rw [mrb_o g r v k]
theorem Sl_z {g : T3} (h : Rel g) {i s : Nat} (hi : i < g 3 0 2) (hs : s < 2) : g 11 i s = 0 ↔ g 27 0 (2 * i + s) = 0 := ((h.1.2.2.2 i hi).2.2.2.2.2 s hs).1
theorem Sl_n {g : T3} (h : Rel g) {i s : Nat} (hi : i < g 3 0 2) (hs : s < 2) (hn : ¬ g 11 i s = 0) : g 12 (2 * i + s) 1 = g 28 0 (2 * i + s) ∧ g 12 (2 * i + s) 3 = g 22 0 (2 * i + s) := ⟨(((h.1.2.2.2 i hi).2.2.2.2.2 s hs).2 hn).2.1, (((h.1.2.2.2 i hi).2.2.2.2.2 s hs).2 hn).2.2.2.1⟩
theorem st_setTrusted {g g1 g2 : T3} {x y z u : Int32} {b : Nat} {r1 r2 : Int32} (hR : Rel g) (hK : Kv g) (hO : okk g) (hb1 : b ≤ 1)
    (h1 : (r1 = nI 0 ∧ ∃ r9 g9, (∃ j, 1 ≤ j ∧ j ≤ 9 ∧ x = nI j ∧ r9 = nI (g 1 0 j) ∧ g9 = up g 1 0 j b) ∧ g1 = up g9 40 0 0 (if r9 = 0 then 0 else 1)) ∨ (r1 = nI 1 ∧ g = g1 ∧ (¬ Bt 9 x)))
    (h2 : (¬ Bt 9 x ∧ r2 = nI 0 ∧ g2 = up g1 20 0 20 1) ∨ (∃ j0, 1 ≤ j0 ∧ j0 ≤ 9 ∧ x = nI j0 ∧ r2 = nI (g1 21 0 j0) ∧ g2 = up (up g1 20 0 20 0) 21 0 j0 b)) : StB g2 r1 r2 := by
  have rn := hR.1.2.1
  have rn6 := hR.1.2.2.1
  have rm := hR.2.1.1
  have rm8 := hR.2.1.2.1
  have rs := hR.2.2.2.2.2.1
  rcases h1 with ⟨rfl, r9, g9, ⟨j, hj1, hj9, rfl, rfl, rfl⟩, rfl⟩ | ⟨rfl, rfl, hx⟩
  · rcases (show (¬ Bt 9 (nI j) ∧ r2 = nI 0 ∧ g2 = up (up (up g 1 0 j b) 40 0 0 (if nI (g 1 0 j) = 0 then 0 else 1)) 20 0 20 1) ∨ (∃ j0, 1 ≤ j0 ∧ j0 ≤ 9 ∧ (nI j) = nI j0 ∧ r2 = nI (g 21 0 j0) ∧ g2 = up (up (up (up g 1 0 j b) 40 0 0 (if nI (g 1 0 j) = 0 then 0 else 1)) 20 0 20 0) 21 0 j0 b) from h2) with ⟨hx, -, -⟩ | ⟨j', hj1', hj9', hxe, rfl, rfl⟩
    · exact (hx ⟨j, hj1, hj9, rfl⟩).elim
    · obtain rfl : j = j' := nIe (by omega) (by omega) hxe
      have hv := hO.le 21 0 j 0 rfl
      refine ⟨0, g 21 0 j, by decide, rfl, rfl, hv, rfl, fun _ => ?_, Rel_cong (Rel_trusted hR j b) (Eq9_c (Eq9_o _ _ _) 21 0 j b), hK⟩
      show (if nI (g 1 0 j) = 0 then 0 else 1) = g 21 0 j
      rw [hR.1.1 j hj1 hj9]
      exact b01 hv
  · rcases h2 with ⟨-, rfl, rfl⟩ | ⟨j', hj1', hj9', hxe, -, -⟩
    · exact stB_x hR hK (by decide) (by decide)
    · exact (hx ⟨j', hj1', hj9', hxe⟩).elim

theorem st_setBad {g g1 g2 : T3} {x y z u : Int32} {b : Nat} {r1 r2 : Int32} (hR : Rel g) (hK : Kv g) (hO : okk g) (hb1 : b ≤ 1)
    (h1 : (r1 = nI 0 ∧ ∃ r9 g9, (∃ i s, i < g 3 0 2 ∧ x = nI i ∧ s < 2 ∧ y = nI s ∧ ¬ g 11 i s = 0 ∧ r9 = nI (g 12 (2 * i + s) 3) ∧ g9 = up g 12 (2 * i + s) 3 b) ∧ g1 = up g9 40 0 0 (if r9 = 0 then 0 else 1)) ∨ (r1 = nI 1 ∧ g = g1 ∧ ((¬ Ix (g 3 0 2) x ∨ ¬ Ix 2 y))) ∨ (r1 = nI 2 ∧ g = g1 ∧ (∃ i s, i < g 3 0 2 ∧ x = nI i ∧ s < 2 ∧ y = nI s ∧ g 11 i s = 0)))
    (h2 : ((¬ Ix (g1 20 0 21) x ∨ ¬ Ix 2 y) ∧ r2 = nI 0 ∧ g2 = up g1 20 0 20 1) ∨ ((∃ i0 s0, i0 < g1 20 0 21 ∧ x = nI i0 ∧ s0 < 2 ∧ y = nI s0 ∧ g1 27 0 (2 * i0 + s0) = 0) ∧ r2 = nI 0 ∧ g2 = up g1 20 0 20 2) ∨ (∃ i0 s0, i0 < g1 20 0 21 ∧ x = nI i0 ∧ s0 < 2 ∧ y = nI s0 ∧ ¬ g1 27 0 (2 * i0 + s0) = 0 ∧ r2 = nI (g1 22 0 (2 * i0 + s0)) ∧ g2 = up (up g1 20 0 20 0) 22 0 (2 * i0 + s0) b)) : StB g2 r1 r2 := by
  have rn := hR.1.2.1
  have rn6 := hR.1.2.2.1
  have rm := hR.2.1.1
  have rm8 := hR.2.1.2.1
  have rs := hR.2.2.2.2.2.1
  rcases h1 with ⟨rfl, r9, g9, ⟨i, s, hi, rfl, hs, rfl, hn, rfl, rfl⟩, rfl⟩ | ⟨rfl, rfl, hx⟩ | ⟨rfl, rfl, i, s, hi, rfl, hs, rfl, hz⟩
  · rcases (show ((¬ Ix (g 20 0 21) (nI i) ∨ ¬ Ix 2 (nI s)) ∧ r2 = nI 0 ∧ g2 = up (up (up g 12 (2 * i + s) 3 b) 40 0 0 (if nI (g 12 (2 * i + s) 3) = 0 then 0 else 1)) 20 0 20 1) ∨ ((∃ i0 s0, i0 < g 20 0 21 ∧ (nI i) = nI i0 ∧ s0 < 2 ∧ (nI s) = nI s0 ∧ g 27 0 (2 * i0 + s0) = 0) ∧ r2 = nI 0 ∧ g2 = up (up (up g 12 (2 * i + s) 3 b) 40 0 0 (if nI (g 12 (2 * i + s) 3) = 0 then 0 else 1)) 20 0 20 2) ∨ (∃ i0 s0, i0 < g 20 0 21 ∧ (nI i) = nI i0 ∧ s0 < 2 ∧ (nI s) = nI s0 ∧ ¬ g 27 0 (2 * i0 + s0) = 0 ∧ r2 = nI (g 22 0 (2 * i0 + s0)) ∧ g2 = up (up (up (up g 12 (2 * i + s) 3 b) 40 0 0 (if nI (g 12 (2 * i + s) 3) = 0 then 0 else 1)) 20 0 20 0) 22 0 (2 * i0 + s0) b) from h2) with ⟨hx, -, -⟩ | ⟨⟨i', s', hi', hxe, hs', hye, hz⟩, -, -⟩ | ⟨i', s', hi', hxe, hs', hye, hz, rfl, rfl⟩
    · exact (hx.elim (fun h => h ⟨i, by omega, rfl⟩) (fun h => h ⟨s, hs, rfl⟩)).elim
    · obtain rfl : i = i' := nIe (by omega) (by omega) hxe
      obtain rfl : s = s' := nIe (by omega) (by omega) hye
      exact absurd ((Sl_z hR hi hs).mpr hz) hn
    · obtain rfl : i = i' := nIe (by omega) (by omega) hxe
      obtain rfl : s = s' := nIe (by omega) (by omega) hye
      have hv := hO.le 22 0 (2 * i + s) 0 rfl
      refine ⟨0, g 22 0 (2 * i + s), by decide, rfl, rfl, hv, rfl, fun _ => ?_, Rel_cong (Rel_bad hR hs b) (Eq9_c (Eq9_o _ _ _) 22 0 _ b), hK⟩
      show (if nI (g 12 (2 * i + s) 3) = 0 then 0 else 1) = g 22 0 (2 * i + s)
      rw [(Sl_n hR hi hs hn).2]
      exact b01 hv
  · rcases h2 with ⟨-, rfl, rfl⟩ | ⟨⟨i', s', hi', hxe, hs', hye, hz⟩, -, -⟩ | ⟨i', s', hi', hxe, hs', hye, hz, -, -⟩
    · exact stB_x hR hK (by decide) (by decide)
    · exact (hx.elim (fun h => h ⟨i', by omega, hxe⟩) (fun h => h ⟨s', hs', hye⟩)).elim
    · exact (hx.elim (fun h => h ⟨i', by omega, hxe⟩) (fun h => h ⟨s', hs', hye⟩)).elim
  · rcases h2 with ⟨hx, -, -⟩ | ⟨-, rfl, rfl⟩ | ⟨i', s', hi', hxe, hs', hye, hz', -, -⟩
    · exact (hx.elim (fun h => h ⟨i, by omega, rfl⟩) (fun h => h ⟨s, hs, rfl⟩)).elim
    · exact stB_x hR hK (by decide) (by decide)
    · obtain rfl : i = i' := nIe (by omega) (by omega) hxe
      obtain rfl : s = s' := nIe (by omega) (by omega) hye
      exact absurd ((Sl_z hR hi hs).mp hz) hz'

theorem st_version {g g1 g2 : T3} {x y z u : Int32} {b : Nat} {r1 r2 : Int32} (hR : Rel g) (hK : Kv g) (hO : okk g)
    (h1 : (r1 = nI 0 ∧ ∃ r9 g9, (∃ i s, i < g 3 0 2 ∧ x = nI i ∧ s < 2 ∧ y = nI s ∧ ¬ g 11 i s = 0 ∧ r9 = nI (g 12 (2 * i + s) 1) ∧ g = g9) ∧ ∃ n9, r9.toInt64 = lN n9 ∧ g1 = up g9 40 0 0 n9) ∨ (r1 = nI 1 ∧ g = g1 ∧ ((¬ Ix (g 3 0 2) x ∨ ¬ Ix 2 y))) ∨ (r1 = nI 2 ∧ g = g1 ∧ (∃ i s, i < g 3 0 2 ∧ x = nI i ∧ s < 2 ∧ y = nI s ∧ g 11 i s = 0)))
    (h2 : ((¬ Ix (g1 20 0 21) x ∨ ¬ Ix 2 y) ∧ r2 = nI 0 ∧ g2 = up g1 20 0 20 1) ∨ ((∃ i0 s0, i0 < g1 20 0 21 ∧ x = nI i0 ∧ s0 < 2 ∧ y = nI s0 ∧ g1 27 0 (2 * i0 + s0) = 0) ∧ r2 = nI 0 ∧ g2 = up g1 20 0 20 2) ∨ (∃ i0 s0, i0 < g1 20 0 21 ∧ x = nI i0 ∧ s0 < 2 ∧ y = nI s0 ∧ ¬ g1 27 0 (2 * i0 + s0) = 0 ∧ r2 = nI (g1 28 0 (2 * i0 + s0)) ∧ g2 = up g1 20 0 20 0)) : StN g2 r1 r2 := by
  have rn := hR.1.2.1
  have rn6 := hR.1.2.2.1
  have rm := hR.2.1.1
  have rm8 := hR.2.1.2.1
  have rs := hR.2.2.2.2.2.1
  rcases h1 with ⟨rfl, r9, g9, ⟨i, s, hi, rfl, hs, rfl, hn, rfl, rfl⟩, n9, hn9, rfl⟩ | ⟨rfl, rfl, hx⟩ | ⟨rfl, rfl, i, s, hi, rfl, hs, rfl, hz⟩
  · rcases (show ((¬ Ix (g 20 0 21) (nI i) ∨ ¬ Ix 2 (nI s)) ∧ r2 = nI 0 ∧ g2 = up (up g 40 0 0 n9) 20 0 20 1) ∨ ((∃ i0 s0, i0 < g 20 0 21 ∧ (nI i) = nI i0 ∧ s0 < 2 ∧ (nI s) = nI s0 ∧ g 27 0 (2 * i0 + s0) = 0) ∧ r2 = nI 0 ∧ g2 = up (up g 40 0 0 n9) 20 0 20 2) ∨ (∃ i0 s0, i0 < g 20 0 21 ∧ (nI i) = nI i0 ∧ s0 < 2 ∧ (nI s) = nI s0 ∧ ¬ g 27 0 (2 * i0 + s0) = 0 ∧ r2 = nI (g 28 0 (2 * i0 + s0)) ∧ g2 = up (up g 40 0 0 n9) 20 0 20 0) from h2) with ⟨hx, -, -⟩ | ⟨⟨i', s', hi', hxe, hs', hye, hz⟩, -, -⟩ | ⟨i', s', hi', hxe, hs', hye, hz, rfl, rfl⟩
    · exact (hx.elim (fun h => h ⟨i, by omega, rfl⟩) (fun h => h ⟨s, hs, rfl⟩)).elim
    · obtain rfl : i = i' := nIe (by omega) (by omega) hxe
      obtain rfl : s = s' := nIe (by omega) (by omega) hye
      exact absurd ((Sl_z hR hi hs).mpr hz) hn
    · obtain rfl : i = i' := nIe (by omega) (by omega) hxe
      obtain rfl : s = s' := nIe (by omega) (by omega) hye
      exact stN_r hR hK (by rw [← (Sl_n hR hi hs hn).1]; exact hn9)
  · rcases h2 with ⟨-, rfl, rfl⟩ | ⟨⟨i', s', hi', hxe, hs', hye, hz⟩, -, -⟩ | ⟨i', s', hi', hxe, hs', hye, hz, -, -⟩
    · exact stN_x hR hK (by decide) (by decide) _
    · exact (hx.elim (fun h => h ⟨i', by omega, hxe⟩) (fun h => h ⟨s', hs', hye⟩)).elim
    · exact (hx.elim (fun h => h ⟨i', by omega, hxe⟩) (fun h => h ⟨s', hs', hye⟩)).elim
  · rcases h2 with ⟨hx, -, -⟩ | ⟨-, rfl, rfl⟩ | ⟨i', s', hi', hxe, hs', hye, hz', -, -⟩
    · exact (hx.elim (fun h => h ⟨i, by omega, rfl⟩) (fun h => h ⟨s, hs, rfl⟩)).elim
    · exact stN_x hR hK (by decide) (by decide) _
    · obtain rfl : i = i' := nIe (by omega) (by omega) hxe
      obtain rfl : s = s' := nIe (by omega) (by omega) hye
      exact absurd ((Sl_z hR hi hs).mp hz) hz'

theorem st_active {g g1 g2 : T3} {x y z u : Int32} {b : Nat} {r1 r2 : Int32} (hR : Rel g) (hK : Kv g) (hO : okk g)
    (h1 : (r1 = nI 0 ∧ ∃ r9 g9, (∃ i, i < g 3 0 2 ∧ x = nI i ∧ r9 = nI (g 10 i 2) ∧ g = g9) ∧ ∃ n9, r9.toInt64 = lN n9 ∧ g1 = up g9 40 0 0 n9) ∨ (r1 = nI 1 ∧ g = g1 ∧ (¬ Ix (g 3 0 2) x)))
    (h2 : (¬ Ix (g1 20 0 21) x ∧ r2 = nI 0 ∧ g2 = up g1 20 0 20 1) ∨ (∃ i0, i0 < g1 20 0 21 ∧ x = nI i0 ∧ r2 = nI (g1 25 0 i0) ∧ g2 = up g1 20 0 20 0)) : StN g2 r1 r2 := by
  have rn := hR.1.2.1
  have rn6 := hR.1.2.2.1
  have rm := hR.2.1.1
  have rm8 := hR.2.1.2.1
  have rs := hR.2.2.2.2.2.1
  rcases h1 with ⟨rfl, r9, g9, ⟨i, hi, rfl, rfl, rfl⟩, n9, hn9, rfl⟩ | ⟨rfl, rfl, hx⟩
  · rcases (show (¬ Ix (g 20 0 21) (nI i) ∧ r2 = nI 0 ∧ g2 = up (up g 40 0 0 n9) 20 0 20 1) ∨ (∃ i0, i0 < g 20 0 21 ∧ (nI i) = nI i0 ∧ r2 = nI (g 25 0 i0) ∧ g2 = up (up g 40 0 0 n9) 20 0 20 0) from h2) with ⟨hx, -, -⟩ | ⟨i', hi', hxe, rfl, rfl⟩
    · exact (hx ⟨i, by omega, rfl⟩).elim
    · obtain rfl : i = i' := nIe (by omega) (by omega) hxe
      exact stN_r hR hK (by rw [← (hR.1.2.2.2 i hi).2.1]; exact hn9)
  · rcases h2 with ⟨-, rfl, rfl⟩ | ⟨i', hi', hxe, -, -⟩
    · exact stN_x hR hK (by decide) (by decide) _
    · exact (hx ⟨i', by omega, hxe⟩).elim

theorem st_reason {g g1 g2 : T3} {x y z u : Int32} {b : Nat} {r1 r2 : Int32} (hR : Rel g) (hK : Kv g) (hO : okk g)
    (h1 : (r1 = nI 0 ∧ ∃ r9 g9, (∃ i s, i < g 3 0 2 ∧ x = nI i ∧ s < 2 ∧ y = nI s ∧ r9 = nI (jg g i s) ∧ g = g9) ∧ ∃ n9, r9.toInt64 = lN n9 ∧ g1 = up g9 40 0 0 n9) ∨ (r1 = nI 1 ∧ g = g1 ∧ ((¬ Ix (g 3 0 2) x ∨ ¬ Ix 2 y))))
    (h2 : ((¬ Ix (g1 20 0 21) x ∨ ¬ Ix 2 y) ∧ r2 = nI 32 ∧ g2 = up g1 20 0 20 1) ∨ (∃ i0 s0, i0 < g1 20 0 21 ∧ x = nI i0 ∧ s0 < 2 ∧ y = nI s0 ∧ r2 = nI (mRe (up g1 20 0 20 0) i0 s0) ∧ g2 = up g1 20 0 20 0)) : StN g2 r1 r2 := by
  have rn := hR.1.2.1
  have rn6 := hR.1.2.2.1
  have rm := hR.2.1.1
  have rm8 := hR.2.1.2.1
  have rs := hR.2.2.2.2.2.1
  rcases h1 with ⟨rfl, r9, g9, ⟨i, s, hi, rfl, hs, rfl, rfl, rfl⟩, n9, hn9, rfl⟩ | ⟨rfl, rfl, hx⟩
  · rcases (show ((¬ Ix (g 20 0 21) (nI i) ∨ ¬ Ix 2 (nI s)) ∧ r2 = nI 32 ∧ g2 = up (up g 40 0 0 n9) 20 0 20 1) ∨ (∃ i0 s0, i0 < g 20 0 21 ∧ (nI i) = nI i0 ∧ s0 < 2 ∧ (nI s) = nI s0 ∧ r2 = nI (mRe (up (up g 40 0 0 n9) 20 0 20 0) i0 s0) ∧ g2 = up (up g 40 0 0 n9) 20 0 20 0) from h2) with ⟨hx, -, -⟩ | ⟨i', s', hi', hxe, hs', hye, rfl, rfl⟩
    · exact (hx.elim (fun h => h ⟨i, by omega, rfl⟩) (fun h => h ⟨s, hs, rfl⟩)).elim
    · obtain rfl : i = i' := nIe (by omega) (by omega) hxe
      obtain rfl : s = s' := nIe (by omega) (by omega) hye
      exact stN_r hR hK (by rw [show mRe (up (up g 40 0 0 n9) 20 0 20 0) i s = jg g i s from (jg_rel hR hi hs).symm]; exact hn9)
  · rcases h2 with ⟨-, rfl, rfl⟩ | ⟨i', s', hi', hxe, hs', hye, -, -⟩
    · exact stN_x hR hK (by decide) (by decide) _
    · exact (hx.elim (fun h => h ⟨i', by omega, hxe⟩) (fun h => h ⟨s', hs', hye⟩)).elim

theorem st_counter {g g1 g2 : T3} {x y z u : Int32} {b : Nat} {r1 r2 : Int32} (hR : Rel g) (hK : Kv g) (hO : okk g)
    (h1 : (r1 = nI 0 ∧ ∃ r9 g9, (∃ i, i < g 3 0 2 ∧ x = nI i ∧ r9 = nI (g 10 i 3) ∧ g = g9) ∧ ∃ n9, r9.toInt64 = lN n9 ∧ g1 = up g9 40 0 0 n9) ∨ (r1 = nI 1 ∧ g = g1 ∧ (¬ Ix (g 3 0 2) x)))
    (h2 : (¬ Ix (g1 20 0 21) x ∧ r2 = nI 0 ∧ g2 = up g1 20 0 20 1) ∨ (∃ i0, i0 < g1 20 0 21 ∧ x = nI i0 ∧ r2 = nI (g1 26 0 i0) ∧ g2 = up g1 20 0 20 0)) : StN g2 r1 r2 := by
  have rn := hR.1.2.1
  have rn6 := hR.1.2.2.1
  have rm := hR.2.1.1
  have rm8 := hR.2.1.2.1
  have rs := hR.2.2.2.2.2.1
  rcases h1 with ⟨rfl, r9, g9, ⟨i, hi, rfl, rfl, rfl⟩, n9, hn9, rfl⟩ | ⟨rfl, rfl, hx⟩
  · rcases (show (¬ Ix (g 20 0 21) (nI i) ∧ r2 = nI 0 ∧ g2 = up (up g 40 0 0 n9) 20 0 20 1) ∨ (∃ i0, i0 < g 20 0 21 ∧ (nI i) = nI i0 ∧ r2 = nI (g 26 0 i0) ∧ g2 = up (up g 40 0 0 n9) 20 0 20 0) from h2) with ⟨hx, -, -⟩ | ⟨i', hi', hxe, rfl, rfl⟩
    · exact (hx ⟨i, by omega, rfl⟩).elim
    · obtain rfl : i = i' := nIe (by omega) (by omega) hxe
      exact stN_r hR hK (by rw [← (hR.1.2.2.2 i hi).2.2.1]; exact hn9)
  · rcases h2 with ⟨-, rfl, rfl⟩ | ⟨i', hi', hxe, -, -⟩
    · exact stN_x hR hK (by decide) (by decide) _
    · exact (hx ⟨i', by omega, hxe⟩).elim

theorem st_stop {g g1 g2 : T3} {x y z u : Int32} {b : Nat} {r1 r2 : Int32} (hR : Rel g) (hK : Kv g) (hO : okk g)
    (h1 : (r1 = nI 0 ∧ ∃ r9 g9, (¬ g 0 0 6 = 111 ∧ r9 = nI (g 5 0 5) ∧ g9 = up g 0 0 6 111) ∧ ∃ n9, r9.toInt64 = lN n9 ∧ g1 = up g9 40 0 0 n9) ∨ (r1 = nI 1 ∧ g = g1 ∧ (g 0 0 6 = 111)))
    (h2 : (g1 20 0 19 = 111 ∧ r2 = nI 0 ∧ g2 = up g1 20 0 20 1) ∨ (¬ g1 20 0 19 = 111 ∧ r2 = nI (g1 20 0 24) ∧ g2 = up (up (up g1 20 0 20 0) 20 0 19 111) 20 0 24 0)) : StN g2 r1 r2 := by
  have rn := hR.1.2.1
  have rn6 := hR.1.2.2.1
  have rm := hR.2.1.1
  have rm8 := hR.2.1.2.1
  have rs := hR.2.2.2.2.2.1
  rcases h1 with ⟨rfl, r9, g9, ⟨hs, rfl, rfl⟩, n9, hn9, rfl⟩ | ⟨rfl, rfl, hx⟩
  · rcases h2 with ⟨hz, -, -⟩ | ⟨-, rfl, rfl⟩
    · exact absurd (show g 20 0 19 = 111 from hz) (by rw [← rs]; exact hs)
    · have e : g 20 0 24 = g 5 0 5 := by
        have h := hR.2.2.1.2.2.2.1
        unfold cRun at h
        rw [if_neg hs] at h
        exact h
      refine ⟨0, by decide, rfl, rfl, fun _ => ?_, Rel_cong (Rel_stop hR) (Eq9_c (Eq9_c (Eq9_o _ _ _) 20 0 19 111) 20 0 24 0), fun h => absurd (show (111 : Nat) = 114 from h) (by decide)⟩
      show lN n9 = (nI (g 20 0 24)).toInt64
      rw [e]
      exact hn9.symm
  · rcases h2 with ⟨-, rfl, rfl⟩ | ⟨hz, -, -⟩
    · exact stN_x hR hK (by decide) (by decide) _
    · exact absurd hx (by rw [rs]; exact hz)

theorem st_runsFrom {g g1 g2 : T3} {x y z u : Int32} {b : Nat} {r1 r2 : Int32} (hR : Rel g) (hK : Kv g) (hO : okk g)
    (h1 : (r1 = nI 0 ∧ ∃ r9 g9, (∃ i, i < g 3 0 2 ∧ x = nI i ∧ i < cRun g ∧ r9 = nI (g 8 0 i) ∧ g = g9) ∧ ∃ n9, r9.toInt64 = lN n9 ∧ g1 = up g9 40 0 0 n9) ∨ (r1 = nI 1 ∧ g = g1 ∧ (¬ Ix (g 3 0 2) x)) ∨ (r1 = nI 2 ∧ g = g1 ∧ (∃ i, i < g 3 0 2 ∧ x = nI i ∧ ¬ i < cRun g)))
    (h2 : (¬ Ix (g1 20 0 21) x ∧ r2 = nI 0 ∧ g2 = up g1 20 0 20 1) ∨ (∃ i0, i0 < g1 20 0 21 ∧ x = nI i0 ∧ ¬ i0 < g1 20 0 24 ∧ r2 = nI 0 ∧ g2 = up g1 20 0 20 2) ∨ (∃ i0, i0 < g1 20 0 21 ∧ x = nI i0 ∧ i0 < g1 20 0 24 ∧ r2 = nI (g1 30 0 i0) ∧ g2 = up g1 20 0 20 0)) : StN g2 r1 r2 := by
  have rn := hR.1.2.1
  have rn6 := hR.1.2.2.1
  have rm := hR.2.1.1
  have rm8 := hR.2.1.2.1
  have rs := hR.2.2.2.2.2.1
  have rc := hR.2.2.1.2.2.2.1
  rcases h1 with ⟨rfl, r9, g9, ⟨i, hi, rfl, hc, rfl, rfl⟩, n9, hn9, rfl⟩ | ⟨rfl, rfl, hx⟩ | ⟨rfl, rfl, i, hi, rfl, hc⟩
  · have hc5 : i < g 5 0 5 := by
      unfold cRun at hc
      split at hc
      · omega
      · exact hc
    rcases (show (¬ Ix (g 20 0 21) (nI i) ∧ r2 = nI 0 ∧ g2 = up (up g 40 0 0 n9) 20 0 20 1) ∨ (∃ i0, i0 < g 20 0 21 ∧ (nI i) = nI i0 ∧ ¬ i0 < g 20 0 24 ∧ r2 = nI 0 ∧ g2 = up (up g 40 0 0 n9) 20 0 20 2) ∨ (∃ i0, i0 < g 20 0 21 ∧ (nI i) = nI i0 ∧ i0 < g 20 0 24 ∧ r2 = nI (g 30 0 i0) ∧ g2 = up (up g 40 0 0 n9) 20 0 20 0) from h2) with ⟨hx, -, -⟩ | ⟨i', hi', hxe, hz, -, -⟩ | ⟨i', hi', hxe, hz, rfl, rfl⟩
    · exact (hx ⟨i, by omega, rfl⟩).elim
    · obtain rfl : i = i' := nIe (by omega) (by omega) hxe
      omega
    · obtain rfl : i = i' := nIe (by omega) (by omega) hxe
      exact stN_r hR hK (by rw [← (hR.2.2.1.2.2.2.2.1 i hc5).1]; exact hn9)
  · rcases h2 with ⟨-, rfl, rfl⟩ | ⟨i', hi', hxe, -, -, -⟩ | ⟨i', hi', hxe, -, -, -⟩
    · exact stN_x hR hK (by decide) (by decide) _
    · exact (hx ⟨i', by omega, hxe⟩).elim
    · exact (hx ⟨i', by omega, hxe⟩).elim
  · rcases h2 with ⟨hx, -, -⟩ | ⟨-, -, -, -, rfl, rfl⟩ | ⟨i', hi', hxe, hz, -, -⟩
    · exact (hx ⟨i, by omega, rfl⟩).elim
    · exact stN_x hR hK (by decide) (by decide) _
    · obtain rfl : i = i' := nIe (by omega) (by omega) hxe
      omega

theorem st_register {g g1 g2 : T3} {x y z u : Int32} {b : Nat} {r1 r2 : Int32} (hR : Rel g) (hK : Kv g) (hO : okk g)
    (h1 : (r1 = nI 0 ∧ ∃ r9 g9, (∃ i, i < 3 ∧ x = nI i ∧ r9 = nI (g 6 0 i) ∧ g = g9) ∧ ∃ n9, r9.toInt64 = lN n9 ∧ g1 = up g9 40 0 0 n9) ∨ (r1 = nI 1 ∧ g = g1 ∧ (¬ Ix 3 x)))
    (h2 : (¬ Ix 3 x ∧ r2 = nI 0 ∧ g2 = up g1 20 0 20 1) ∨ (∃ i0, i0 < 3 ∧ x = nI i0 ∧ r2 = nI (g1 33 0 i0) ∧ g2 = up g1 20 0 20 0)) : StN g2 r1 r2 := by
  have rn := hR.1.2.1
  have rn6 := hR.1.2.2.1
  have rm := hR.2.1.1
  have rm8 := hR.2.1.2.1
  have rs := hR.2.2.2.2.2.1
  rcases h1 with ⟨rfl, r9, g9, ⟨i, hi, rfl, rfl, rfl⟩, n9, hn9, rfl⟩ | ⟨rfl, rfl, hx⟩
  · rcases (show (¬ Ix 3 (nI i) ∧ r2 = nI 0 ∧ g2 = up (up g 40 0 0 n9) 20 0 20 1) ∨ (∃ i0, i0 < 3 ∧ (nI i) = nI i0 ∧ r2 = nI (g 33 0 i0) ∧ g2 = up (up g 40 0 0 n9) 20 0 20 0) from h2) with ⟨hx, -, -⟩ | ⟨i', hi', hxe, rfl, rfl⟩
    · exact (hx ⟨i, by omega, rfl⟩).elim
    · obtain rfl : i = i' := nIe (by omega) (by omega) hxe
      exact stN_r hR hK (by rw [← (hR.2.2.1.2.2.1 i hi)]; exact hn9)
  · rcases h2 with ⟨-, rfl, rfl⟩ | ⟨i', hi', hxe, -, -⟩
    · exact stN_x hR hK (by decide) (by decide) _
    · exact (hx ⟨i', by omega, hxe⟩).elim

theorem st_registerByLog {g g1 g2 : T3} {x y z u : Int32} {b : Nat} {r1 r2 : Int32} (hR : Rel g) (hK : Kv g) (hO : okk g)
    (h1 : (r1 = nI 0 ∧ ∃ r9 g9, (∃ i, i < 3 ∧ x = nI i ∧ r9 = nI (rbl g 0 i (g 5 0 2)) ∧ g = g9) ∧ ∃ n9, r9.toInt64 = lN n9 ∧ g1 = up g9 40 0 0 n9) ∨ (r1 = nI 1 ∧ g = g1 ∧ (¬ Ix 3 x)))
    (h2 : (¬ Ix 3 x ∧ r2 = nI 0 ∧ g2 = up g1 20 0 20 1) ∨ (∃ i0, i0 < 3 ∧ x = nI i0 ∧ r2 = nI (mrb g1 i0 (g1 20 0 23)) ∧ g2 = up g1 20 0 20 0)) : StN g2 r1 r2 := by
  have rn := hR.1.2.1
  have rn6 := hR.1.2.2.1
  have rm := hR.2.1.1
  have rm8 := hR.2.1.2.1
  have rs := hR.2.2.2.2.2.1
  rcases h1 with ⟨rfl, r9, g9, ⟨i, hi, rfl, rfl, rfl⟩, n9, hn9, rfl⟩ | ⟨rfl, rfl, hx⟩
  · rcases h2 with ⟨hx, -, -⟩ | ⟨i', hi', hxe, rfl, rfl⟩
    · exact (hx ⟨i, by omega, rfl⟩).elim
    · obtain rfl : i = i' := nIe (by omega) (by omega) hxe
      have e : mrb (up g 40 0 0 n9) i (up g 40 0 0 n9 20 0 23) = rbl g 0 i (g 5 0 2) := by
        rw [mrb_o, rbl_eq hR _ (Nat.le_refl _), hR.2.2.1.1]; rfl
      exact stN_r hR hK (by rw [e]; exact hn9)
  · rcases h2 with ⟨-, rfl, rfl⟩ | ⟨i', hi', hxe, -, -⟩
    · exact stN_x hR hK (by decide) (by decide) _
    · exact (hx ⟨i', by omega, hxe⟩).elim

theorem st_entry {g g1 g2 : T3} {x y z u : Int32} {b : Nat} {r1 r2 : Int32} (hR : Rel g) (hK : Kv g) (hO : okk g)
    (h1 : (r1 = nI 0 ∧ ∃ r9 g9, (∃ i, i < g 5 0 2 ∧ x = nI i ∧ r9 = nI (g 7 0 i) ∧ g = g9) ∧ ∃ n9, r9.toInt64 = lN n9 ∧ g1 = up g9 40 0 0 n9) ∨ (r1 = nI 1 ∧ g = g1 ∧ (¬ Ix (g 5 0 2) x)))
    (h2 : (¬ Ix (g1 20 0 23) x ∧ r2 = nI 0 ∧ g2 = up g1 20 0 20 1) ∨ (∃ i0, i0 < g1 20 0 23 ∧ x = nI i0 ∧ r2 = nI (g1 32 0 i0) ∧ g2 = up g1 20 0 20 0)) : StN g2 r1 r2 := by
  have rn := hR.1.2.1
  have rn6 := hR.1.2.2.1
  have rm := hR.2.1.1
  have rm8 := hR.2.1.2.1
  have rs := hR.2.2.2.2.2.1
  have re := hR.2.2.1.1
  have re12 := hO.le 20 0 23 11 rfl
  rcases h1 with ⟨rfl, r9, g9, ⟨i, hi, rfl, rfl, rfl⟩, n9, hn9, rfl⟩ | ⟨rfl, rfl, hx⟩
  · rcases (show (¬ Ix (g 20 0 23) (nI i) ∧ r2 = nI 0 ∧ g2 = up (up g 40 0 0 n9) 20 0 20 1) ∨ (∃ i0, i0 < g 20 0 23 ∧ (nI i) = nI i0 ∧ r2 = nI (g 32 0 i0) ∧ g2 = up (up g 40 0 0 n9) 20 0 20 0) from h2) with ⟨hx, -, -⟩ | ⟨i', hi', hxe, rfl, rfl⟩
    · exact (hx ⟨i, by omega, rfl⟩).elim
    · obtain rfl : i = i' := nIe (by omega) (by omega) hxe
      exact stN_r hR hK (by rw [← hR.2.2.1.2.1 i (by omega)]; exact hn9)
  · rcases h2 with ⟨-, rfl, rfl⟩ | ⟨i', hi', hxe, -, -⟩
    · exact stN_x hR hK (by decide) (by decide) _
    · exact (hx ⟨i', by omega, hxe⟩).elim

theorem st_opens {g g1 g2 : T3} {x y z u : Int32} {b : Nat} {r1 r2 : Int32} (hR : Rel g) (hK : Kv g) (hO : okk g)
    (h1 : (r1 = nI 0 ∧ ∃ r9 g9, (∃ j, j < g 3 1 2 ∧ x = nI j ∧ bP r9 (isO g j) ∧ g = g9) ∧ g1 = up g9 40 0 0 (if r9 = 0 then 0 else 1)) ∨ (r1 = nI 1 ∧ g = g1 ∧ (¬ Ix (g 3 1 2) x)))
    (h2 : (¬ Ix (g1 20 0 22) x ∧ r2 = nI 0 ∧ g2 = up g1 20 0 20 1) ∨ (∃ j0, j0 < g1 20 0 22 ∧ x = nI j0 ∧ bP r2 (mO (up g1 20 0 20 0) j0) ∧ g2 = up g1 20 0 20 0)) : StB g2 r1 r2 := by
  have rn := hR.1.2.1
  have rn6 := hR.1.2.2.1
  have rm := hR.2.1.1
  have rm8 := hR.2.1.2.1
  have rs := hR.2.2.2.2.2.1
  rcases h1 with ⟨rfl, r9, g9, ⟨j, hj, rfl, hb, rfl⟩, rfl⟩ | ⟨rfl, rfl, hx⟩
  · rcases (show (¬ Ix (g 20 0 22) (nI j) ∧ r2 = nI 0 ∧ g2 = up (up g 40 0 0 (if r9 = 0 then 0 else 1)) 20 0 20 1) ∨ (∃ j', j' < g 20 0 22 ∧ nI j = nI j' ∧ bP r2 (mO g j') ∧ g2 = up (up g 40 0 0 (if r9 = 0 then 0 else 1)) 20 0 20 0) from h2) with ⟨hx, -, -⟩ | ⟨j', hj', hxe, hb', rfl⟩
    · exact (hx ⟨j, by omega, rfl⟩).elim
    · obtain rfl : j = j' := nIe (by omega) (by omega) hxe
      have e := isO_iff hR hj
      rcases hb with ⟨rfl, hb⟩ | ⟨rfl, hb⟩
      · rcases hb' with ⟨rfl, hb'⟩ | ⟨rfl, hb'⟩
        · exact ⟨0, 1, by decide, rfl, rfl, by decide, rfl, fun _ => rfl, Rel_th (Rel_out hR 40 _ (by decide)) 0, hK⟩
        · exact absurd (e.mp hb) hb'
      · rcases hb' with ⟨rfl, hb'⟩ | ⟨rfl, hb'⟩
        · exact absurd (e.mpr hb') hb
        · exact ⟨0, 0, by decide, rfl, rfl, by decide, rfl, fun _ => rfl, Rel_th (Rel_out hR 40 _ (by decide)) 0, hK⟩
  · rcases h2 with ⟨-, rfl, rfl⟩ | ⟨j', hj', hxe, -, -⟩
    · exact stB_x hR hK (by decide) (by decide)
    · exact (hx ⟨j', by omega, hxe⟩).elim

theorem st_nextOpen {g g1 g2 : T3} {x y z u : Int32} {b : Nat} {r1 r2 : Int32} (hR : Rel g) (hK : Kv g) (hO : okk g)
    (h1 : (r1 = nI 0 ∧ ∃ r9 g9, (∃ j, j < g 3 1 2 ∧ x ≤ nI j ∧ isO g j ∧ (∀ q, q < j → x ≤ nI q → ¬ isO g q) ∧ r9 = nI j ∧ g = g9) ∧ ∃ n9, r9.toInt64 = lN n9 ∧ g1 = up g9 40 0 0 n9) ∨ (r1 = nI 1 ∧ g = g1 ∧ (∀ q, q < g 3 1 2 → x ≤ nI q → ¬ isO g q)))
    (h2 : ((∀ q, q < g1 20 0 22 → x ≤ nI q → ¬ mO g1 q) ∧ r2 = nI 0 ∧ g2 = up g1 20 0 20 1) ∨ (∃ j0, j0 < g1 20 0 22 ∧ x ≤ nI j0 ∧ mO g1 j0 ∧ (∀ q, q < j0 → x ≤ nI q → ¬ mO g1 q) ∧ r2 = nI j0 ∧ g2 = up g1 20 0 20 0)) : StN g2 r1 r2 := by
  have rn := hR.1.2.1
  have rn6 := hR.1.2.2.1
  have rm := hR.2.1.1
  have rm8 := hR.2.1.2.1
  have rs := hR.2.2.2.2.2.1
  rcases h1 with ⟨rfl, r9, g9, ⟨j, hj, hle, ho, hall, rfl, rfl⟩, n9, hn9, rfl⟩ | ⟨rfl, rfl, hall⟩
  · rcases (show ((∀ q, q < g 20 0 22 → x ≤ nI q → ¬ mO g q) ∧ r2 = nI 0 ∧ g2 = up (up g 40 0 0 n9) 20 0 20 1) ∨ (∃ j', j' < g 20 0 22 ∧ x ≤ nI j' ∧ mO g j' ∧ (∀ q, q < j' → x ≤ nI q → ¬ mO g q) ∧ r2 = nI j' ∧ g2 = up (up g 40 0 0 n9) 20 0 20 0) from h2) with ⟨hn, -, -⟩ | ⟨j', hj', hle', ho', hall', rfl, rfl⟩
    · exact absurd ((isO_iff hR hj).mp ho) (hn j (by omega) hle)
    · have e : j = j' := by
        by_cases c : j < j'
        · exact absurd ((isO_iff hR hj).mp ho) (hall' j c hle)
        · by_cases d : j' < j
          · exact absurd ((isO_iff hR (by omega)).mpr ho') (hall j' d hle')
          · omega
      subst e
      exact stN_r hR hK hn9
  · rcases h2 with ⟨-, rfl, rfl⟩ | ⟨j', hj', hle', ho', hall', -, -⟩
    · exact stN_x hR hK (by decide) (by decide) _
    · exact absurd ((isO_iff hR (by omega)).mpr ho') (hall j' (by omega) hle')

theorem st_setAgreed {g g1 g2 : T3} {x y z u : Int32} {b : Nat} {r1 r2 : Int32} (hR : Rel g) (hK : Kv g) (hO : okk g) (hb1 : b ≤ 1)
    (h1 : (r1 = nI 0 ∧ ∃ r9 g9, (∃ i, i < 5 ∧ x = nI i ∧ r9 = nI (cAg (up g 2 0 i b)) ∧ g9 = up g 2 0 i b) ∧ ∃ n9, r9.toInt64 = lN n9 ∧ g1 = up g9 40 0 0 n9) ∨ (r1 = nI 1 ∧ g = g1 ∧ (¬ Ix 5 x)))
    (h2 : (¬ Ix 5 x ∧ r2 = nI 0 ∧ g2 = up g1 20 0 20 1) ∨ (∃ i0, i0 < 5 ∧ x = nI i0 ∧ r2 = nI (mAg (up (up g1 20 0 20 0) 23 0 i0 b)) ∧ g2 = up (up g1 20 0 20 0) 23 0 i0 b)) : StN g2 r1 r2 := by
  have rn := hR.1.2.1
  have rn6 := hR.1.2.2.1
  have rm := hR.2.1.1
  have rm8 := hR.2.1.2.1
  have rs := hR.2.2.2.2.2.1
  rcases h1 with ⟨rfl, r9, g9, ⟨i, hi, rfl, rfl, rfl⟩, n9, hn9, rfl⟩ | ⟨rfl, rfl, hx⟩
  · rcases h2 with ⟨hx, -, -⟩ | ⟨i', hi', hxe, rfl, rfl⟩
    · exact (hx ⟨i, hi, rfl⟩).elim
    · obtain rfl : i = i' := nIe (by omega) (by omega) hxe
      have hF : Rel (up (up (up (up g 2 0 i b) 40 0 0 n9) 20 0 20 0) 23 0 i b) := Rel_cong (Rel_agreed hR i b) (Eq9_c (Eq9_o _ _ _) 23 0 i b)
      have e : cAg (up g 2 0 i b) = mAg (up (up (up (up g 2 0 i b) 40 0 0 n9) 20 0 20 0) 23 0 i b) := cAg_eq hF.2.2.2.2.1
      exact ⟨0, by decide, rfl, rfl, fun _ => by rw [← e]; exact hn9.symm, hF, hK⟩
  · rcases h2 with ⟨-, rfl, rfl⟩ | ⟨i', hi', hxe, -, -⟩
    · exact stN_x hR hK (by decide) (by decide) _
    · exact (hx ⟨i', hi', hxe⟩).elim
