/-! THE STEPS, further: what makes, starts, looks ahead, binds. -/
theorem asG_o {g : T3} {i k a q : Nat} (h3 : ¬ (k = 3 ∧ a = 0)) (h4 : ¬ k = 4) (h : ¬ ((k = 10 ∨ k = 11) ∧ a = g 3 0 2)) : asG g i k a q = g k a q := by
  unfold asG addG
  rw [up_o (by omega), up_o (by omega)]
  split
  · rw [up_o (by omega), up_o (by omega), stG_o h (by omega)]
  · rw [up_o (by omega), stG_o h (by omega)]
theorem asG_n {g : T3} {i k q : Nat} (h : k = 10 ∨ k = 11) : asG g i k (g 3 0 2) q = stG g (g 3 0 2) i k (g 3 0 2) q := by
  unfold asG addG
  rw [up_o (by omega), up_o (by omega)]
  split
  · rw [up_o (by omega), up_o (by omega)]
  · rw [up_o (by omega)]
theorem asG_2 {g : T3} {i : Nat} : asG g i 3 0 2 = g 3 0 2 + 1 := by
  unfold asG addG
  rw [up_at, if_pos ⟨rfl, rfl, rfl⟩]
theorem slG_o {g : T3} {x y k a q : Nat} (h3 : ¬ (k = 3 ∧ a = 1)) (h4 : ¬ k = 4) (h : ¬ ((k = 13 ∨ k = 14) ∧ a = g 3 1 2)) : slG g x y k a q = g k a q := by
  have hb := (bind_eq (g := scG g (g 3 1 2) x y) (h := fun _ _ q => scG g (g 3 1 2) x y 6 0 q) (p := 0) (b := 0) (j := g 3 1 2) (fun _ _ => rfl)).2.1
  unfold slG addG
  rw [up_o (by omega), up_o (by omega)]
  split
  · rw [up_o (by omega), up_o (by omega), hb k a q (by omega), scG_o h (by omega)]
  · rw [up_o (by omega), hb k a q (by omega), scG_o h (by omega)]
theorem slG_13 {g : T3} {x y q : Nat} : slG g x y 13 (g 3 1 2) q = scG g (g 3 1 2) x y 13 (g 3 1 2) q := by
  have hb := (bind_eq (g := scG g (g 3 1 2) x y) (h := fun _ _ q => scG g (g 3 1 2) x y 6 0 q) (p := 0) (b := 0) (j := g 3 1 2) (fun _ _ => rfl)).2.1
  unfold slG addG
  rw [up_o (by omega), up_o (by omega)]
  split
  · rw [up_o (by omega), up_o (by omega), hb _ _ _ (by omega)]
  · rw [up_o (by omega), hb _ _ _ (by omega)]
theorem slG_14 {g : T3} {x y q : Nat} (hq : q < 3) : slG g x y 14 (g 3 1 2) q = g 6 0 q := by
  have e : bnT (scG g (g 3 1 2) x y) (g 3 1 2) 0 14 (g 3 1 2) q = g 6 0 q := by
    unfold bnT
    rw [up_at, up_at, up_at]
    rcases (show q = 0 ∨ q = 1 ∨ q = 2 by omega) with rfl | rfl | rfl
    · rw [if_neg (by omega), if_neg (by omega), if_pos ⟨rfl, rfl, rfl⟩, scG_o (by omega) (by omega)]
    · rw [if_neg (by omega), if_pos ⟨rfl, rfl, rfl⟩]
      exact scG_o (by omega) (by omega)
    · rw [if_pos ⟨rfl, rfl, rfl⟩]
      exact scG_o (by omega) (by omega)
  unfold slG addG
  rw [up_o (by omega), up_o (by omega)]
  split
  · rw [up_o (by omega), up_o (by omega), e]
  · rw [up_o (by omega), e]
theorem slG_2 {g : T3} {x y : Nat} : slG g x y 3 1 2 = g 3 1 2 + 1 := by
  unfold slG addG
  rw [up_at, if_pos ⟨rfl, rfl, rfl⟩]
theorem st_addStage {g g1 g2 : T3} {ad ad1 : T2} {x y z u : Int32} {b : Nat} {r1 r2 : Int32} (hR : Rel g) (hK : Kv g) (hO : okk g)
    (h1 : (r1 = nI 0 ∧ ∃ r9 g9, (∃ i, i < 3 ∧ x = nI i ∧ g 3 0 2 < 6 ∧ g 0 0 6 = 111 ∧ r9 = nI (g 3 0 2) ∧ g9 = asG g i ∧ AdS ad ad1) ∧ ∃ n9, r9.toInt64 = lN n9 ∧ g1 = up g9 40 0 0 n9) ∨ (r1 = nI 1 ∧ g1 = g ∧ ad1 = ad ∧ (¬ Ix 3 x)) ∨ (r1 = nI 2 ∧ g1 = g ∧ ad1 = ad ∧ (Ix 3 x ∧ (¬ g 3 0 2 < 6 ∨ ¬ g 0 0 6 = 111))))
    (h2 : (¬ Ix 3 x ∧ r2 = nI 0 ∧ g2 = up g1 20 0 20 1) ∨ (Ix 3 x ∧ (g1 20 0 21 = 6 ∨ ¬ g1 20 0 19 = 111) ∧ r2 = nI 0 ∧ g2 = up g1 20 0 20 2) ∨ (∃ i0, i0 < 3 ∧ x = nI i0 ∧ ¬ g1 20 0 21 = 6 ∧ g1 20 0 19 = 111 ∧ r2 = nI (g1 20 0 21) ∧ g2 = up (up (up g1 20 0 20 0) 24 0 (g1 20 0 21) i0) 20 0 21 (g1 20 0 21 + 1))) : StN g2 r1 r2 := by
  have rn := hR.1.2.1
  have rn6 := hR.1.2.2.1
  have rm := hR.2.1.1
  have rm8 := hR.2.1.2.1
  have rs := hR.2.2.2.2.2.1
  rcases h1 with ⟨rfl, r9, g9, ⟨i, hi, rfl, hn, h111, rfl, rfl, -⟩, n9, hn9, rfl⟩ | ⟨rfl, rfl, -, hx⟩ | ⟨rfl, rfl, -, hx, hc⟩
  · have e21 : up (asG g i) 40 0 0 n9 20 0 21 = g 3 0 2 := (asG_o (by omega) (by omega) (by omega)).trans rn.symm
    have e19 : up (asG g i) 40 0 0 n9 20 0 19 = 111 := (asG_o (by omega) (by omega) (by omega)).trans (rs.symm.trans h111)
    rw [e21, e19] at h2
    rcases h2 with ⟨hx, -, -⟩ | ⟨-, hx, -, -⟩ | ⟨i', hi', hxe, -, -, rfl, rfl⟩
    · exact (hx ⟨i, hi, rfl⟩).elim
    · omega
    · obtain rfl : i = i' := nIe (by omega) (by omega) hxe
      have hF : ∀ k a q, ¬ (k = 20 ∧ a = 0 ∧ (q = 20 ∨ q = 21)) → ¬ (k = 24 ∧ a = 0 ∧ q = g 3 0 2) → ¬ k = 40 → up (up (up (up (asG g i) 40 0 0 n9) 20 0 20 0) 24 0 (g 3 0 2) i) 20 0 21 (g 3 0 2 + 1) k a q = asG g i k a q := fun k a q h1 h2 h3 => by
        rw [up_o (by omega), up_o (by omega), up_o (by omega), up_o (by omega)]
      have n0 : stG g (g 3 0 2) i 10 (g 3 0 2) 0 = i := by unfold stG; rw [if_pos ⟨rfl, rfl⟩, if_pos rfl]
      have n2 : stG g (g 3 0 2) i 10 (g 3 0 2) 2 = 0 := by unfold stG; rw [if_pos ⟨rfl, rfl⟩, if_neg (by decide)]
      have n3 : stG g (g 3 0 2) i 10 (g 3 0 2) 3 = 0 := by unfold stG; rw [if_pos ⟨rfl, rfl⟩, if_neg (by decide)]
      have n11 : ∀ q, stG g (g 3 0 2) i 11 (g 3 0 2) q = 0 := fun q => by unfold stG; rw [if_neg (by omega), if_pos ⟨rfl, rfl⟩]
      have m24 : up (up (up (up (asG g i) 40 0 0 n9) 20 0 20 0) 24 0 (g 3 0 2) i) 20 0 21 (g 3 0 2 + 1) 24 0 (g 3 0 2) = i := by rw [up_o (by omega), up_at, if_pos ⟨rfl, rfl, rfl⟩]
      refine ⟨0, by decide, rfl, by rw [up_o (by omega), up_o (by omega), up_at, if_pos ⟨rfl, rfl, rfl⟩], fun _ => ?_, Rel_add hR h111 hn (by rw [hF _ _ _ (by omega) (by omega) (by omega)]; exact asG_2) (by rw [up_at, if_pos ⟨rfl, rfl, rfl⟩]) (by rw [m24, hF _ _ _ (by omega) (by omega) (by omega), asG_n (Or.inl rfl)]; exact n0) (by rw [m24]; omega) (by rw [hF _ _ _ (by omega) (by omega) (by omega), asG_n (Or.inl rfl)]; exact n2) (by rw [hF _ _ _ (by omega) (by omega) (by omega), asG_n (Or.inl rfl)]; exact n3) (fun q => by rw [hF _ _ _ (by omega) (by omega) (by omega), asG_n (Or.inr rfl)]; exact n11 q) (fun k a q h1 h2 h3 h4 h5 h6 h7 h8 => ?_), fun h => ?_⟩
      · rw [up_o (by omega), up_o (by omega), up_o (by omega), up_at, if_pos ⟨rfl, rfl, rfl⟩]
        exact hn9.symm
      · rw [hF k a q (by omega) (by omega) (by omega)]
        exact asG_o h2 h3 h7
      · rw [hF _ _ _ (by omega) (by omega) (by omega), asG_o (by omega) (by omega) (by omega)] at h
        omega
  · rcases h2 with ⟨-, rfl, rfl⟩ | ⟨hx', -, -, -⟩ | ⟨i', hi', hxe, -, -, -, -⟩
    · exact stN_x hR hK (by decide) (by decide) _
    · exact absurd hx' hx
    · exact (hx ⟨i', hi', hxe⟩).elim
  · rcases h2 with ⟨hx', -, -⟩ | ⟨-, -, rfl, rfl⟩ | ⟨i', hi', hxe, h6, h9, -, -⟩
    · exact absurd hx hx'
    · exact stN_x hR hK (by decide) (by decide) _
    · omega

theorem st_install {g g1 g2 : T3} {ad ad1 : T2} {x y z u : Int32} {b : Nat} {r1 r2 : Int32} (hR : Rel g) (hK : Kv g) (hO : okk g)
    (h1 : (r1 = nI 0 ∧ ∃ r9 g9, (∃ i k v q0, i < g 3 0 2 ∧ x = nI i ∧ 1 ≤ k ∧ k ≤ 9 ∧ y = nI k ∧ 1 ≤ v ∧ v ≤ 99 ∧ z = nI v ∧ q0 < 1000 ∧ u = nI q0 ∧ r9 = nI (pSl g i) ∧ g9 = imG (up g 10 i 2 (pSl g i)) i (pSl g i) k v q0 ∧ AdS ad ad1) ∧ ∃ n9, r9.toInt64 = lN n9 ∧ g1 = up g9 40 0 0 n9) ∨ (r1 = nI 1 ∧ g1 = g ∧ ad1 = ad ∧ (¬ Ix (g 3 0 2) x)) ∨ (r1 = nI 2 ∧ g1 = g ∧ ad1 = ad ∧ (Ix (g 3 0 2) x ∧ (¬ Bt 9 y ∨ ¬ Bt 99 z ∨ ¬ Ix 1000 u))))
    (h2 : (¬ Ix (g1 20 0 21) x ∧ r2 = nI 0 ∧ g2 = up g1 20 0 20 1) ∨ (Ix (g1 20 0 21) x ∧ (¬ Bt 9 y ∨ ¬ Bt 99 z ∨ ¬ Ix 1000 u) ∧ r2 = nI 0 ∧ g2 = up g1 20 0 20 2) ∨ (∃ i0 k0 v0 q1, i0 < g1 20 0 21 ∧ x = nI i0 ∧ 1 ≤ k0 ∧ k0 ≤ 9 ∧ y = nI k0 ∧ 1 ≤ v0 ∧ v0 ≤ 99 ∧ z = nI v0 ∧ q1 < 1000 ∧ u = nI q1 ∧ r2 = nI (insS g1 i0) ∧ g2 = insG g1 i0 k0 v0 q1 (insS g1 i0))) : StN g2 r1 r2 := by
  have rn := hR.1.2.1
  have rn6 := hR.1.2.2.1
  have rm := hR.2.1.1
  have rm8 := hR.2.1.2.1
  have rs := hR.2.2.2.2.2.1
  rcases h1 with ⟨rfl, r9, g9, ⟨i, k, v, q, hi, rfl, hk1, hk9, rfl, hv1, hv9, rfl, hq, rfl, rfl, rfl, -⟩, n9, hn9, rfl⟩ | ⟨rfl, rfl, -, hx⟩ | ⟨rfl, rfl, -, hx, hc⟩
  · have hs := insS_eq hR hi
    have hs2 : insS g i < 2 := by rw [← hs]; exact Nat.lt_succ_of_le (pSl_le hO i)
    rw [hs] at hn9 h2
    have eI : insS (up (imG (up g 10 i 2 (insS g i)) i (insS g i) k v q) 40 0 0 n9) i = insS g i := rfl
    have e21 : up (imG (up g 10 i 2 (insS g i)) i (insS g i) k v q) 40 0 0 n9 20 0 21 = g 3 0 2 := rn.symm
    rw [e21] at h2
    rcases h2 with ⟨hx, -, -⟩ | ⟨-, hx, -, -⟩ | ⟨i', k', v', q', hi', hxe, -, hk', hye, -, hv', hze, hq', hue, rfl, rfl⟩
    · exact (hx ⟨i, hi, rfl⟩).elim
    · exact (hx.elim (fun h => h ⟨k, hk1, hk9, rfl⟩) (fun h => h.elim (fun h => h ⟨v, hv1, hv9, rfl⟩) (fun h => h ⟨q, hq, rfl⟩))).elim
    · obtain rfl : i = i' := nIe (by omega) (by omega) hxe
      obtain rfl : k = k' := nIe (by omega) (by omega) hye
      obtain rfl : v = v' := nIe (by omega) (by omega) hze
      obtain rfl : q = q' := nIe (by omega) (by omega) hue
      rw [eI]
      generalize insS g i = s at hs2 hn9 ⊢
      have hF : ∀ a b x, ¬ (a = 20 ∧ b = 0 ∧ x = 20) → ¬ ((a = 22 ∨ a = 27 ∨ a = 28 ∨ a = 29) ∧ b = 0 ∧ x = 2 * i + s) → ¬ (a = 25 ∧ b = 0 ∧ x = i) → ¬ a = 40 → insG (up (imG (up g 10 i 2 s) i s k v q) 40 0 0 n9) i k v q s a b x = imG (up g 10 i 2 s) i s k v q a b x := fun a b x h1 h2 h3 h4 => by
        unfold insG
        rw [up_o (by omega), up_o (by omega), up_o (by omega), up_o (by omega), up_o (by omega), up_o (by omega), up_o (by omega)]
      refine ⟨0, by decide, rfl, ?_, fun _ => ?_, Rel_inst (v := v) (q := q) hR hi hs2 hk1 hk9 ?_ ?_ ?_ ?_ ?_ ?_ ?_ ?_ ?_ ?_ ?_ (fun a b x h1 h2 h3 h4 h5 h6 h7 h8 h9 => ?_), fun h => ?_⟩
      · unfold insG
        rw [up_o (by omega), up_o (by omega), up_o (by omega), up_o (by omega), up_o (by omega), up_at, if_pos ⟨rfl, rfl, rfl⟩]
      · unfold insG
        rw [up_o (by omega), up_o (by omega), up_o (by omega), up_o (by omega), up_o (by omega), up_o (by omega), up_at, if_pos ⟨rfl, rfl, rfl⟩]
        exact hn9.symm
      · rw [hF _ _ _ (by omega) (by omega) (by omega) (by omega), imG_o (by omega) (by omega), up_at, if_pos ⟨rfl, rfl, rfl⟩]
      · unfold insG
        rw [up_at, if_pos ⟨rfl, rfl, rfl⟩]
      · rw [hF _ _ _ (by omega) (by omega) (by omega) (by omega), imG_11]
      · unfold insG
        rw [up_o (by omega), up_o (by omega), up_o (by omega), up_o (by omega), up_at, if_pos ⟨rfl, rfl, rfl⟩]
      · rw [hF _ _ _ (by omega) (by omega) (by omega) (by omega)]; exact imG_12.1
      · rw [hF _ _ _ (by omega) (by omega) (by omega) (by omega)]; exact imG_12.2.1
      · unfold insG
        rw [up_o (by omega), up_o (by omega), up_o (by omega), up_at, if_pos ⟨rfl, rfl, rfl⟩]
      · rw [hF _ _ _ (by omega) (by omega) (by omega) (by omega)]; exact imG_12.2.2.1
      · unfold insG
        rw [up_o (by omega), up_o (by omega), up_at, if_pos ⟨rfl, rfl, rfl⟩]
      · rw [hF _ _ _ (by omega) (by omega) (by omega) (by omega)]; exact imG_12.2.2.2
      · unfold insG
        rw [up_o (by omega), up_at, if_pos ⟨rfl, rfl, rfl⟩]
      · rw [hF a b x (by omega) (by omega) (by omega) (by omega), imG_o h7 h8, up_o h5]
      · rw [hF _ _ _ (by omega) (by omega) (by omega) (by omega), imG_o (by omega) (by omega), up_o (by omega)] at h
        rw [hF _ _ _ (by omega) (by omega) (by omega) (by omega), imG_o (by omega) (by omega), up_o (by omega)]
        exact hK h
  · rcases h2 with ⟨-, rfl, rfl⟩ | ⟨hx', -, -, -⟩ | ⟨i', k', v', q', hi', hxe, -⟩
    · exact stN_x hR hK (by decide) (by decide) _
    · exact (hx (by rw [rn]; exact hx')).elim
    · exact (hx ⟨i', by omega, hxe⟩).elim
  · rcases h2 with ⟨hx', -, -⟩ | ⟨-, -, rfl, rfl⟩ | ⟨i', k', v', q', hi', hxe, hk1', hk', hye, hv1', hv', hze, hq', hue, -, -⟩
    · exact (hx' (by rw [← rn]; exact hx)).elim
    · exact stN_x hR hK (by decide) (by decide) _
    · exact (hc.elim (fun h => h ⟨k', hk1', hk', hye⟩) (fun h => h.elim (fun h => h ⟨v', hv1', hv', hze⟩) (fun h => h ⟨q', hq', hue⟩))).elim

theorem st_commit {g g1 g2 : T3} {x y z u : Int32} {b : Nat} {r1 r2 : Int32} (hR : Rel g) (hK : Kv g) (hO : okk g)
    (h1 : (r1 = nI 0 ∧ ∃ r9 g9, (g 0 0 6 = 114 ∧ r9 = nI (cmt g (min (g 5 0 5) (g 3 0 2))).1 ∧ g9 = (cmt g (min (g 5 0 5) (g 3 0 2))).2) ∧ ∃ n9, r9.toInt64 = lN n9 ∧ g1 = up g9 40 0 0 n9) ∨ (r1 = nI 1 ∧ g = g1 ∧ (¬ g 0 0 6 = 114)))
    (h2 : (¬ g1 20 0 19 = 114 ∧ r2 = nI 0 ∧ g2 = up g1 20 0 20 1) ∨ (g1 20 0 19 = 114 ∧ r2 = nI (mCm (up g1 20 0 20 0) (g1 20 0 21)).1 ∧ g2 = (mCm (up g1 20 0 20 0) (g1 20 0 21)).2)) : StN g2 r1 r2 := by
  have rn := hR.1.2.1
  have rn6 := hR.1.2.2.1
  have rm := hR.2.1.1
  have rm8 := hR.2.1.2.1
  have rs := hR.2.2.2.2.2.1
  rcases h1 with ⟨rfl, r9, g9, ⟨hs, rfl, rfl⟩, n9, hn9, rfl⟩ | ⟨rfl, rfl, hx⟩
  · have hm : min (g 5 0 5) (g 3 0 2) = g 3 0 2 := by rw [hR.2.2.1.2.2.2.2.2.2 hs]; exact Nat.min_self _
    rw [hm] at hn9 h2
    have e19 : up (cmt g (g 3 0 2)).2 40 0 0 n9 20 0 19 = 114 := (cmt_fr g _ 20 0 19 (by omega)).trans (rs.symm.trans hs)
    have e21 : up (cmt g (g 3 0 2)).2 40 0 0 n9 20 0 21 = g 3 0 2 := (cmt_fr g _ 20 0 21 (by omega)).trans rn.symm
    rw [e19, e21] at h2
    rcases h2 with ⟨hz, -, -⟩ | ⟨-, rfl, rfl⟩
    · exact absurd rfl hz
    · obtain ⟨e1, hF⟩ := Rel_commit (g := g) (h0 := up (up (cmt g (g 3 0 2)).2 40 0 0 n9) 20 0 20 0) hR hs (fun a r x ha => by rw [up_o (by omega), up_o (by omega)]) (fun k i j a b c => by rw [up_o (by omega), up_o (by omega), cmt_fr g _ k i j (by omega)])
      refine ⟨0, by decide, rfl, ?_, fun _ => ?_, hF, fun h => ?_⟩
      · rw [mCm_fr _ _ 20 0 20 (by omega), up_at, if_pos ⟨rfl, rfl, rfl⟩]
      · rw [mCm_fr _ _ 40 0 0 (by omega), up_o (by omega), up_at, if_pos ⟨rfl, rfl, rfl⟩, ← e1]
        exact hn9.symm
      · rw [mCm_fr _ _ 3 0 2 (by omega), up_o (by omega), up_o (by omega), cmt_fr g _ 3 0 2 (by omega)]
        exact hK hs
  · rcases h2 with ⟨-, rfl, rfl⟩ | ⟨hz, -, -⟩
    · exact stN_x hR hK (by decide) (by decide) _
    · exact absurd (rs.trans hz) hx

theorem st_start {g g1 g2 : T3} {x y z u : Int32} {b : Nat} {r1 r2 : Int32} (hR : Rel g) (hK : Kv g) (hO : okk g) (hO2 : okk g2)
    (h1 : (r1 = nI 0 ∧ ∃ r9 g9, (g 0 0 6 = 111 ∧ ¬ g 3 0 2 = 0 ∧ r9 = nI (if stF g 5 0 5 = stF g 3 0 2 then 1 else 0) ∧ g9 = up (stF g) 0 0 6 (if stF g 5 0 5 = stF g 3 0 2 then 114 else 104)) ∧ g1 = up g9 40 0 0 (if r9 = 0 then 0 else 1)) ∨ (r1 = nI 1 ∧ g = g1 ∧ ((¬ g 0 0 6 = 111 ∨ g 3 0 2 = 0))))
    (h2 : (¬ (g1 20 0 19 = 111 ∧ 0 < g1 20 0 21) ∧ r2 = nI 0 ∧ g2 = up g1 20 0 20 1) ∨ (g1 20 0 19 = 111 ∧ 0 < g1 20 0 21 ∧ r2 = nI (mGo (up g1 20 0 20 0)).1 ∧ g2 = mStt (mGo (up g1 20 0 20 0)))) : StB g2 r1 r2 := by
  have rn := hR.1.2.1
  have rn6 := hR.1.2.2.1
  have rm := hR.2.1.1
  have rm8 := hR.2.1.2.1
  have rs := hR.2.2.2.2.2.1
  rcases h1 with ⟨rfl, r9, g9, ⟨h111, hn0, rfl, rfl⟩, rfl⟩ | ⟨rfl, rfl, hx⟩
  · generalize hV : (if stF g 5 0 5 = stF g 3 0 2 then 114 else 104) = V at h2
    generalize hX : (if stF g 5 0 5 = stF g 3 0 2 then 1 else 0) = X at h2
    have hcf := PF_into g 0
    have eB : ∀ k i j, ¬ (5 ≤ k ∧ k ≤ 9 ∧ i = 0) → ¬ k = 0 → ¬ k = 40 → up (up (stF g) 0 0 6 V) 40 0 0 (if nI X = 0 then 0 else 1) k i j = g k i j := fun k i j a b c => by
      unfold stF
      rw [up_o (by omega), up_o (by omega), up_o (by omega)]
      exact hcf k i j a
    rw [eB 20 0 19 (by omega) (by omega) (by omega), eB 20 0 21 (by omega) (by omega) (by omega)] at h2
    rcases h2 with ⟨hz, -, -⟩ | ⟨-, -, rfl, rfl⟩
    · exact (hz ⟨by rw [← rs]; exact h111, by omega⟩).elim
    · obtain ⟨e1, hF⟩ := Rel_start (g := g) (h0 := up (up (up (stF g) 0 0 6 V) 40 0 0 (if nI X = 0 then 0 else 1)) 20 0 20 0) hR (by omega) (fun a r x ha => by rw [up_o (by omega), up_o (by omega), hV]) (fun k i j a b c => by rw [up_o (by omega)]; exact eB k i j (by omega) (by omega) (by omega)) (hO2.le 20 0 23 11 rfl)
      rw [hX] at e1
      have hle := mGo_le (up (up (up (stF g) 0 0 6 V) 40 0 0 (if nI X = 0 then 0 else 1)) 20 0 20 0)
      refine ⟨0, _, by decide, rfl, ?_, hle, rfl, fun _ => ?_, hF, fun _ => ?_⟩
      · rw [mStt_o (by omega) (by omega), mGo_fr2 (by omega) (by omega) (by omega) (by omega), up_at, if_pos ⟨rfl, rfl, rfl⟩]
      · rw [mStt_o (by omega) (by omega), mGo_fr2 (by omega) (by omega) (by omega) (by omega), up_o (by omega), up_at, if_pos ⟨rfl, rfl, rfl⟩, ← e1]
        exact b01 (by omega)
      · rw [mStt_o (by omega) (by omega), mGo_fr2 (by omega) (by omega) (by omega) (by omega), up_o (by omega), eB 3 0 2 (by omega) (by omega) (by omega)]
        omega
  · rcases h2 with ⟨-, rfl, rfl⟩ | ⟨hz, hy, -, -⟩
    · exact stB_x hR hK (by decide) (by decide)
    · exact (hx.elim (fun h => h (rs.trans hz)) (fun h => by omega)).elim

theorem st_forecast {g g1 g2 : T3} {x y z u : Int32} {b : Nat} {r1 r2 : Int32} (hR : Rel g) (hK : Kv g) (hO : okk g)
    (h1 : (r1 = nI 0 ∧ ∃ r9 g9, (∃ i, i < 3 ∧ x = nI i ∧ ¬ g 3 0 2 = 0 ∧ r9 = nI (sInto g 1 6 1 i) ∧ g9 = sInto g 1) ∧ ∃ n9, r9.toInt64 = lN n9 ∧ g1 = up g9 40 0 0 n9) ∨ (r1 = nI 1 ∧ g = g1 ∧ (¬ Ix 3 x)) ∨ (r1 = nI 2 ∧ g = g1 ∧ (Ix 3 x ∧ g 3 0 2 = 0)))
    (h2 : (¬ Ix 3 x ∧ r2 = nI 0 ∧ g2 = up g1 20 0 20 1) ∨ (Ix 3 x ∧ g1 20 0 21 = 0 ∧ r2 = nI 0 ∧ g2 = up g1 20 0 20 2) ∨ (∃ i0, i0 < 3 ∧ x = nI i0 ∧ ¬ g1 20 0 21 = 0 ∧ r2 = nI ((mGo (up g1 20 0 20 0)).2 36 0 i0) ∧ g2 = (mGo (up g1 20 0 20 0)).2)) : StN g2 r1 r2 := by
  have rn := hR.1.2.1
  have rn6 := hR.1.2.2.1
  have rm := hR.2.1.1
  have rm8 := hR.2.1.2.1
  have rs := hR.2.2.2.2.2.1
  rcases h1 with ⟨rfl, r9, g9, ⟨i, hi, rfl, hn0, rfl, rfl⟩, n9, hn9, rfl⟩ | ⟨rfl, rfl, hx⟩ | ⟨rfl, rfl, hx, hn0⟩
  · have e21 : up (sInto g 1) 40 0 0 n9 20 0 21 = g 3 0 2 := (PF_into g 1 20 0 21 (by omega)).trans rn.symm
    rw [e21] at h2
    rcases h2 with ⟨hx, -, -⟩ | ⟨-, hz, -, -⟩ | ⟨i', hi', hxe, -, rfl, rfl⟩
    · exact (hx ⟨i, hi, rfl⟩).elim
    · exact absurd hz hn0
    · obtain rfl : i = i' := nIe (by omega) (by omega) hxe
      obtain ⟨-, -, tg, -⟩ := sim_go (h0 := up (up (sInto g 1) 40 0 0 n9) 20 0 20 0) 1 hR.1 (go_MF n9 (fun k i j a b => PF_into g 1 k i j (by omega)))
      refine ⟨0, by decide, rfl, ?_, fun _ => ?_, Rel_cong hR (go_Eq9 g n9), fun h => ?_⟩
      · rw [mGo_fr2 (by omega) (by omega) (by omega) (by omega), up_at, if_pos ⟨rfl, rfl, rfl⟩]
      · rw [mGo_fr2 (by omega) (by omega) (by omega) (by omega), up_o (by omega), up_at, if_pos ⟨rfl, rfl, rfl⟩, ← tg.2.2 i hi]
        exact hn9.symm
      · rw [go_fr n9 (by omega) (by omega) (by omega)]
        rw [PF_into g 1 3 0 2 (by omega)]; omega
  · rcases h2 with ⟨-, rfl, rfl⟩ | ⟨hx', -, -, -⟩ | ⟨i', hi', hxe, -, -, -⟩
    · exact stN_x hR hK (by decide) (by decide) _
    · exact absurd hx' hx
    · exact (hx ⟨i', hi', hxe⟩).elim
  · rcases h2 with ⟨hx', -, -⟩ | ⟨-, -, rfl, rfl⟩ | ⟨i', hi', hxe, hz, -, -⟩
    · exact absurd hx hx'
    · exact stN_x hR hK (by decide) (by decide) _
    · omega

theorem st_isLost {g g1 g2 : T3} {x y z u : Int32} {b : Nat} {r1 r2 : Int32} (hR : Rel g) (hK : Kv g) (hO : okk g)
    (h1 : (r1 = nI 0 ∧ ∃ r9 g9, (∃ j, j < g 3 1 2 ∧ x = nI j ∧ bP r9 (¬ (sInto g 1 5 1 5 = sInto g 1 3 0 2 ∧ oth (sInto g 1) j 1 = 0)) ∧ g9 = sInto g 1) ∧ g1 = up g9 40 0 0 (if r9 = 0 then 0 else 1)) ∨ (r1 = nI 1 ∧ g = g1 ∧ (¬ Ix (g 3 1 2) x)))
    (h2 : (¬ Ix (g1 20 0 22) x ∧ r2 = nI 0 ∧ g2 = up g1 20 0 20 1) ∨ (∃ j0, j0 < g1 20 0 22 ∧ x = nI j0 ∧ bP r2 (¬ (¬ (mGo (up g1 20 0 20 0)).1 = 0 ∧ mOt (mGo (up g1 20 0 20 0)).2 j0 1 = 0)) ∧ g2 = (mGo (up g1 20 0 20 0)).2)) : StB g2 r1 r2 := by
  have rn := hR.1.2.1
  have rn6 := hR.1.2.2.1
  have rm := hR.2.1.1
  have rm8 := hR.2.1.2.1
  have rs := hR.2.2.2.2.2.1
  rcases h1 with ⟨rfl, r9, g9, ⟨j, hj, rfl, hb, rfl⟩, rfl⟩ | ⟨rfl, rfl, hx⟩
  · generalize hX : (if r9 = 0 then 0 else 1) = n9 at h2
    have e22 : up (sInto g 1) 40 0 0 n9 20 0 22 = g 3 1 2 := (PF_into g 1 20 0 22 (by omega)).trans rm.symm
    rw [e22] at h2
    rcases h2 with ⟨hx, -, -⟩ | ⟨j', hj', hxe, hb', rfl⟩
    · exact (hx ⟨j, hj, rfl⟩).elim
    · obtain rfl : j = j' := nIe (by omega) (by omega) hxe
      obtain ⟨cf, mf, tg, u, ug, -, -, f1, f0⟩ := sim_go (h0 := up (up (sInto g 1) 40 0 0 n9) 20 0 20 0) 1 hR.1 (go_MF n9 (fun k i j a b => PF_into g 1 k i j (by omega)))
      have hn0 := hR.2.1.2.2.2 (by omega)
      have eo : oth (sInto g 1) j 1 = mOt (mGo (up (up (sInto g 1) 40 0 0 n9) 20 0 20 0)).2 j 1 := oth_eq hR.2.1 hj (PF_into g 1 13 j 0 (by omega)) (fun q => PF_into g 1 14 j q (by omega)) (by rw [go_fr n9 (by omega) (by omega) (by omega)]; exact PF_into g 1 37 0 j (by omega)) (fun q => by rw [go_fr n9 (by omega) (by omega) (by omega)]; exact PF_into g 1 39 0 q (by omega)) (fun q hq => tg.2.2 q hq)
      have er : sInto g 1 5 1 5 = sInto g 1 3 0 2 ↔ ¬ (mGo (up (up (sInto g 1) 40 0 0 n9) 20 0 20 0)).1 = 0 := by
        rw [ug.1, PF_into g 1 3 0 2 (by omega)]
        exact ⟨fun e z => (f0 z).elim (fun h => by omega) (fun h => by omega), fun z => (f1 z).1⟩
      rw [← eo, ← er] at hb'
      have fin : ∀ k, k ≤ 1 → n9 = k → r2 = nI k → StB (mGo (up (up (sInto g 1) 40 0 0 n9) 20 0 20 0)).2 (nI 0) r2 := fun k hk h1 h2 => by
        refine ⟨0, k, by decide, rfl, ?_, hk, h2, fun _ => ?_, Rel_cong hR (go_Eq9 g n9), fun h => ?_⟩
        · rw [mGo_fr2 (by omega) (by omega) (by omega) (by omega), up_at, if_pos ⟨rfl, rfl, rfl⟩]
        · rw [mGo_fr2 (by omega) (by omega) (by omega) (by omega), up_o (by omega), up_at, if_pos ⟨rfl, rfl, rfl⟩]
          exact h1
        · rw [go_fr n9 (by omega) (by omega) (by omega)]
          rw [PF_into g 1 3 0 2 (by omega)]; omega
      rcases hb with ⟨rfl, hb⟩ | ⟨rfl, hb⟩
      · rcases hb' with ⟨rfl, hb'⟩ | ⟨rfl, hb'⟩
        · exact fin 1 (by decide) (by rw [← hX]; decide) rfl
        · exact absurd hb hb'
      · rcases hb' with ⟨rfl, hb'⟩ | ⟨rfl, hb'⟩
        · exact absurd hb' hb
        · exact fin 0 (by decide) (by rw [← hX]; decide) rfl
  · rcases h2 with ⟨-, rfl, rfl⟩ | ⟨j', hj', hxe, -, -⟩
    · exact stB_x hR hK (by decide) (by decide)
    · exact (hx ⟨j', by omega, hxe⟩).elim

theorem st_sealAhead {g g1 g2 : T3} {x y z u : Int32} {b : Nat} {r1 r2 : Int32} (hR : Rel g) (hK : Kv g) (hO : okk g)
    (h1 : (r1 = nI 0 ∧ ∃ r9 g9, (∃ j, j < g 3 1 2 ∧ x = nI j ∧ isO g j ∧ r9 = nI (oth (sInto g 1) j 1) ∧ g9 = bnT (sInto g 1) j 1) ∧ ∃ n9, r9.toInt64 = lN n9 ∧ g1 = up g9 40 0 0 n9) ∨ (r1 = nI 1 ∧ g = g1 ∧ (¬ Ix (g 3 1 2) x)) ∨ (r1 = nI 2 ∧ g = g1 ∧ (∃ j, j < g 3 1 2 ∧ x = nI j ∧ ¬ isO g j)))
    (h2 : (¬ Ix (g1 20 0 22) x ∧ r2 = nI 0 ∧ g2 = up g1 20 0 20 1) ∨ (∃ j0, j0 < g1 20 0 22 ∧ x = nI j0 ∧ ¬ mO g1 j0 ∧ r2 = nI 0 ∧ g2 = up g1 20 0 20 2) ∨ (∃ j0, j0 < g1 20 0 22 ∧ x = nI j0 ∧ mO g1 j0 ∧ r2 = nI (mOt (mGo (up g1 20 0 20 0)).2 j0 1) ∧ g2 = mSe (mGo (up g1 20 0 20 0)).2 j0 1 3)) : StN g2 r1 r2 := by
  have rn := hR.1.2.1
  have rn6 := hR.1.2.2.1
  have rm := hR.2.1.1
  have rm8 := hR.2.1.2.1
  have rs := hR.2.2.2.2.2.1
  rcases h1 with ⟨rfl, r9, g9, ⟨j, hj, rfl, ho, rfl, rfl⟩, n9, hn9, rfl⟩ | ⟨rfl, rfl, hx⟩ | ⟨rfl, rfl, j, hj, rfl, ho⟩
  · have hbf := fun h => (bind_eq (g := sInto g 1) (h := h) (p := 1) (b := 1) (j := j))
    have hb2 : ∀ a i q, ¬ (a = 14 ∧ i = j) → bnT (sInto g 1) j 1 a i q = sInto g 1 a i q := (bind_eq (g := sInto g 1) (h := fun _ _ q => sInto g 1 6 1 q) (p := 1) (b := 1) (j := j) (fun _ _ => rfl)).2.1
    have e22 : up (bnT (sInto g 1) j 1) 40 0 0 n9 20 0 22 = g 3 1 2 := by rw [up_o (by omega), hb2 _ _ _ (by omega), PF_into g 1 20 0 22 (by omega), rm]
    have eO : ∀ j', mO (up (bnT (sInto g 1) j 1) 40 0 0 n9) j' ↔ mO g j' := fun j' => mO_o (fun k q a b => by rw [up_o (by omega), hb2 _ _ _ (by omega), PF_into g 1 k 0 q (by omega)]) j'
    rw [e22] at h2
    rcases h2 with ⟨hx, -, -⟩ | ⟨j', hj', hxe, ho', -, -⟩ | ⟨j', hj', hxe, -, rfl, rfl⟩
    · exact (hx ⟨j, hj, rfl⟩).elim
    · obtain rfl : j = j' := nIe (by omega) (by omega) hxe
      exact absurd ((eO j).mpr ((isO_iff hR hj).mp ho)) ho'
    · obtain rfl : j = j' := nIe (by omega) (by omega) hxe
      obtain ⟨cf, mf, tg, u, ug, -⟩ := sim_go (h0 := up (up (bnT (sInto g 1) j 1) 40 0 0 n9) 20 0 20 0) 1 hR.1 (go_MF n9 (fun k i q a b => by rw [hb2 k i q (by omega)]; exact PF_into g 1 k i q (by omega)))
      obtain ⟨b1, -, b3⟩ := bind_eq (g := sInto g 1) (h := (mGo (up (up (bnT (sInto g 1) j 1) 40 0 0 n9) 20 0 20 0)).2) (p := 1) (b := 1) (j := j) (fun q hq => tg.2.2 q hq)
      have hgo : ∀ k i q, ¬ (34 ≤ k ∧ k ≤ 36) → ¬ (k = 20 ∧ (q = 20 ∨ q = 26 ∨ q = 27 ∨ q = 28)) → ¬ k = 40 → (mGo (up (up (bnT (sInto g 1) j 1) 40 0 0 n9) 20 0 20 0)).2 k i q = bnT (sInto g 1) j 1 k i q := fun k i q a b c => go_fr n9 a b c
      have eo : oth (sInto g 1) j 1 = mOt (mGo (up (up (bnT (sInto g 1) j 1) 40 0 0 n9) 20 0 20 0)).2 j 1 := oth_eq hR.2.1 hj (PF_into g 1 13 j 0 (by omega)) (fun q => PF_into g 1 14 j q (by omega)) (by rw [hgo _ _ _ (by omega) (by omega) (by omega), hb2 _ _ _ (by omega)]; exact PF_into g 1 37 0 j (by omega)) (fun q => by rw [hgo _ _ _ (by omega) (by omega) (by omega), hb2 _ _ _ (by omega)]; exact PF_into g 1 39 0 q (by omega)) (fun q hq => tg.2.2 q hq)
      refine ⟨0, by decide, rfl, ?_, fun _ => ?_, Rel_bind (j := j) hR (fun q hq => ?_) (fun k i q h1 h2 h3 h4 h5 h6 => ?_), fun h => ?_⟩
      · rw [b3 20 0 20 (by omega), mGo_fr2 (by omega) (by omega) (by omega) (by omega), up_at, if_pos ⟨rfl, rfl, rfl⟩]
      · rw [b3 40 0 0 (by omega), mGo_fr2 (by omega) (by omega) (by omega) (by omega), up_o (by omega), up_at, if_pos ⟨rfl, rfl, rfl⟩, ← eo]
        exact hn9.symm
      · rw [← b1 q hq, b3 14 j q (by omega), hgo _ _ _ (by omega) (by omega) (by omega)]
      · rw [b3 k i q (by omega), hgo _ _ _ h3 h4 (by omega), hb2 _ _ _ h5]
        exact PF_into g 1 k i q (by omega)
      · rw [b3 3 0 2 (by omega), hgo _ _ _ (by omega) (by omega) (by omega), hb2 _ _ _ (by omega), PF_into g 1 3 0 2 (by omega)]
        exact hR.2.1.2.2.2 (by omega)
  · rcases h2 with ⟨-, rfl, rfl⟩ | ⟨j', hj', hxe, -, -, -⟩ | ⟨j', hj', hxe, -, -, -⟩
    · exact stN_x hR hK (by decide) (by decide) _
    · exact (hx ⟨j', by omega, hxe⟩).elim
    · exact (hx ⟨j', by omega, hxe⟩).elim
  · rcases h2 with ⟨hx, -, -⟩ | ⟨-, -, -, -, rfl, rfl⟩ | ⟨j', hj', hxe, ho', -, -⟩
    · exact (hx ⟨j, by omega, rfl⟩).elim
    · exact stN_x hR hK (by decide) (by decide) _
    · obtain rfl : j = j' := nIe (by omega) (by omega) hxe
      exact absurd ((isO_iff hR hj).mpr ho') ho

theorem st_recover {g g1 g2 : T3} {x y z u : Int32} {b : Nat} {r1 r2 : Int32} (hR : Rel g) (hK : Kv g) (hO : okk g)
    (h1 : (r1 = nI 0 ∧ ∃ r9 g9, (∃ j, j < g 3 1 2 ∧ x = nI j ∧ g 0 0 6 = 114 ∧ ¬ isO g j ∧ g 13 j 1 ≤ cAg g ∧ r9 = nI (cAg g) ∧ g9 = fAg (bnT g j 0) 5) ∧ ∃ n9, r9.toInt64 = lN n9 ∧ g1 = up g9 40 0 0 n9) ∨ (r1 = nI 1 ∧ g = g1 ∧ (¬ Ix (g 3 1 2) x)) ∨ (r1 = nI 2 ∧ g = g1 ∧ (∃ j, j < g 3 1 2 ∧ x = nI j ∧ ¬ (g 0 0 6 = 114 ∧ ¬ isO g j))) ∨ (r1 = nI 3 ∧ g = g1 ∧ (∃ j, j < g 3 1 2 ∧ x = nI j ∧ g 0 0 6 = 114 ∧ ¬ isO g j ∧ cAg g < g 13 j 1)))
    (h2 : (¬ Ix (g1 20 0 22) x ∧ r2 = nI 0 ∧ g2 = up g1 20 0 20 1) ∨ (∃ j0, j0 < g1 20 0 22 ∧ x = nI j0 ∧ (¬ g1 20 0 19 = 114 ∨ mO g1 j0) ∧ r2 = nI 0 ∧ g2 = up g1 20 0 20 2) ∨ (∃ j0, j0 < g1 20 0 22 ∧ x = nI j0 ∧ g1 20 0 19 = 114 ∧ ¬ mO g1 j0 ∧ mAg g1 < g1 38 0 j0 ∧ r2 = nI 0 ∧ g2 = up g1 20 0 20 3) ∨ (∃ j0, j0 < g1 20 0 22 ∧ x = nI j0 ∧ g1 20 0 19 = 114 ∧ ¬ mO g1 j0 ∧ g1 38 0 j0 ≤ mAg g1 ∧ r2 = nI (mAg g1) ∧ g2 = mFa (mSe (up g1 20 0 20 0) j0 0 3) 5)) : StN g2 r1 r2 := by
  have rn := hR.1.2.1
  have rn6 := hR.1.2.2.1
  have rm := hR.2.1.1
  have rm8 := hR.2.1.2.1
  have rs := hR.2.2.2.2.2.1
  have eA := cAg_eq hR.2.2.2.2.1
  rcases h1 with ⟨rfl, r9, g9, ⟨j, hj, rfl, hs, ho, hc, rfl, rfl⟩, n9, hn9, rfl⟩ | ⟨rfl, rfl, hx⟩ | ⟨rfl, rfl, j, hj, rfl, ho⟩ | ⟨rfl, rfl, j, hj, rfl, hs, ho, hc⟩
  · have hb2 : ∀ a i q, ¬ (a = 14 ∧ i = j) → bnT g j 0 a i q = g a i q := (bind_eq (g := g) (h := fun _ _ q => g 6 0 q) (p := 0) (b := 0) (j := j) (fun _ _ => rfl)).2.1
    have eB : ∀ k i q, ¬ k = 2 → ¬ (k = 14 ∧ i = j) → ¬ k = 40 → up (fAg (bnT g j 0) 5) 40 0 0 n9 k i q = g k i q := fun k i q a b c => by
      rw [up_o (by omega), fAg_at, if_neg (by omega), hb2 k i q b]
    have eO : mO (up (fAg (bnT g j 0) 5) 40 0 0 n9) j ↔ mO g j := mO_o (fun k q a b => eB k 0 q (by omega) (by omega) (by omega)) j
    have eM : mAg (up (fAg (bnT g j 0) 5) 40 0 0 n9) = mAg g := sumN_congr fun q _ => by rw [eB 23 0 q (by omega) (by omega) (by omega)]
    have hp := (hR.2.1.2.2.1 j hj).2.1
    rw [eB 20 0 22 (by omega) (by omega) (by omega), eB 20 0 19 (by omega) (by omega) (by omega), eM] at h2
    rcases h2 with ⟨hx, -, -⟩ | ⟨j', hj', hxe, ho', -, -⟩ | ⟨j', hj', hxe, -, -, hl, -, -⟩ | ⟨j', hj', hxe, -, -, -, rfl, rfl⟩
    · exact (hx ⟨j, by omega, rfl⟩).elim
    · obtain rfl : j = j' := nIe (by omega) (by omega) hxe
      exact (ho'.elim (fun h => h (rs.symm.trans hs)) (fun h => ho ((isO_iff hR hj).mpr (eO.mp h)))).elim
    · obtain rfl : j = j' := nIe (by omega) (by omega) hxe
      rw [eB 38 0 j (by omega) (by omega) (by omega)] at hl
      omega
    · obtain rfl : j = j' := nIe (by omega) (by omega) hxe
      obtain ⟨b1, -, b3⟩ := bind_eq (g := g) (h := up (up (fAg (bnT g j 0) 5) 40 0 0 n9) 20 0 20 0) (p := 0) (b := 0) (j := j) (fun q hq => by
        show g 6 0 q = up (up (fAg (bnT g j 0) 5) 40 0 0 n9) 20 0 20 0 33 0 q
        rw [up_o (by omega), eB 33 0 q (by omega) (by omega) (by omega)]
        exact hR.2.2.1.2.2.1 q hq)
      have hF : ∀ k i q, ¬ (k = 23 ∧ i = 0 ∧ q < 5) → ¬ k = 2 → ¬ (k = 14 ∧ i = j) → ¬ (k = 39 ∧ 3 * j ≤ q ∧ q < 3 * j + 3) → ¬ (k = 20 ∧ q = 20) → ¬ k = 40 → mFa (mSe (up (up (fAg (bnT g j 0) 5) 40 0 0 n9) 20 0 20 0) j 0 3) 5 k i q = g k i q := fun k i q a b c d e f => by
        rw [mFa_at, if_neg a, b3 k i q d, up_o (by omega), eB k i q b c f]
      refine ⟨0, by decide, rfl, ?_, fun _ => ?_, Rel_ag2 (Rel_bind (g := g) (F := fun k i q => if k = 2 then g 2 i q else if k = 23 then g 23 i q else mFa (mSe (up (up (fAg (bnT g j 0) 5) 40 0 0 n9) 20 0 20 0) j 0 3) 5 k i q) (j := j) hR (fun q hq => ?_) (fun k i q h1 h2 h3 h4 h5 h6 => ?_)) (fun q hq => ?_) (fun k i q h1 h2 h3 h4 h5 h6 => ?_), fun h => ?_⟩
      · rw [mFa_at, if_neg (by omega), b3 20 0 20 (by omega), up_at, if_pos ⟨rfl, rfl, rfl⟩]
      · rw [mFa_at, if_neg (by omega), b3 40 0 0 (by omega), up_o (by omega), up_at, if_pos ⟨rfl, rfl, rfl⟩, ← eA]
        exact hn9.symm
      · show mFa (mSe (up (up (fAg (bnT g j 0) 5) 40 0 0 n9) 20 0 20 0) j 0 3) 5 14 j q = mFa (mSe (up (up (fAg (bnT g j 0) 5) 40 0 0 n9) 20 0 20 0) j 0 3) 5 39 0 (3 * j + q)
        rw [mFa_at, if_neg (by omega), mFa_at, if_neg (by omega), ← b1 q hq, b3 14 j q (by omega), up_o (by omega), up_o (by omega), fAg_at, if_neg (by omega)]
      · show (if k = 2 then g 2 i q else if k = 23 then g 23 i q else mFa (mSe (up (up (fAg (bnT g j 0) 5) 40 0 0 n9) 20 0 20 0) j 0 3) 5 k i q) = g k i q
        by_cases e : k = 2
        · rw [if_pos e, e]
        · rw [if_neg e]
          by_cases d : k = 23
          · rw [if_pos d, d]
          · rw [if_neg d]; exact hF k i q (by omega) e h5 h6 (by omega) (by omega)
      · rw [mFa_at, if_neg (by omega), mFa_at, if_pos ⟨rfl, rfl, hq⟩, b3 2 0 q (by omega), up_o (by omega), up_o (by omega), fAg_at, if_pos ⟨rfl, rfl, hq⟩]
      · show _ = (if k = 2 then g 2 i q else if k = 23 then g 23 i q else mFa (mSe (up (up (fAg (bnT g j 0) 5) 40 0 0 n9) 20 0 20 0) j 0 3) 5 k i q)
        rw [if_neg h5, if_neg h6]
      · rw [hF 3 0 2 (by omega) (by omega) (by omega) (by omega) (by omega) (by omega)]
        exact hK hs
  · rcases h2 with ⟨-, rfl, rfl⟩ | ⟨j', hj', hxe, -⟩ | ⟨j', hj', hxe, -⟩ | ⟨j', hj', hxe, -⟩
    · exact stN_x hR hK (by decide) (by decide) _
    · exact (hx ⟨j', by omega, hxe⟩).elim
    · exact (hx ⟨j', by omega, hxe⟩).elim
    · exact (hx ⟨j', by omega, hxe⟩).elim
  · rcases h2 with ⟨hx, -, -⟩ | ⟨-, -, -, -, rfl, rfl⟩ | ⟨j', hj', hxe, h9, ho', -, -, -⟩ | ⟨j', hj', hxe, h9, ho', -, -, -⟩
    · exact (hx ⟨j, by omega, rfl⟩).elim
    · exact stN_x hR hK (by decide) (by decide) _
    · obtain rfl : j = j' := nIe (by omega) (by omega) hxe
      exact (ho ⟨rs.trans h9, fun h => ho' ((isO_iff hR hj).mp h)⟩).elim
    · obtain rfl : j = j' := nIe (by omega) (by omega) hxe
      exact (ho ⟨rs.trans h9, fun h => ho' ((isO_iff hR hj).mp h)⟩).elim
  · have hp := (hR.2.1.2.2.1 j hj).2.1
    rcases h2 with ⟨hx, -, -⟩ | ⟨j', hj', hxe, ho', -, -⟩ | ⟨-, -, -, -, -, -, rfl, rfl⟩ | ⟨j', hj', hxe, -, -, hl, -, -⟩
    · exact (hx ⟨j, by omega, rfl⟩).elim
    · obtain rfl : j = j' := nIe (by omega) (by omega) hxe
      exact (ho'.elim (fun h => h (rs.symm.trans hs)) (fun h => ho ((isO_iff hR hj).mpr h))).elim
    · exact stN_x hR hK (by decide) (by decide) _
    · obtain rfl : j = j' := nIe (by omega) (by omega) hxe
      omega

theorem st_seal {g g1 g2 : T3} {ad ad1 : T2} {x y z u : Int32} {b : Nat} {r1 r2 : Int32} (hR : Rel g) (hK : Kv g) (hO : okk g)
    (h1 : (r1 = nI 0 ∧ ∃ r9 g9, (∃ a b, 1 ≤ a ∧ a ≤ 7 ∧ x = nI a ∧ 1 ≤ b ∧ b ≤ 5 ∧ y = nI b ∧ g 0 0 6 = 114 ∧ g 3 1 2 < 8 ∧ r9 = nI (g 3 1 2) ∧ g9 = slG g a b ∧ AdS ad ad1) ∧ ∃ n9, r9.toInt64 = lN n9 ∧ g1 = up g9 40 0 0 n9) ∨ (r1 = nI 1 ∧ g1 = g ∧ ad1 = ad ∧ ((¬ Bt 7 x ∨ ¬ Bt 5 y))) ∨ (r1 = nI 2 ∧ g1 = g ∧ ad1 = ad ∧ (Bt 7 x ∧ Bt 5 y ∧ (¬ g 0 0 6 = 114 ∨ ¬ g 3 1 2 < 8))))
    (h2 : ((¬ Bt 7 x ∨ ¬ Bt 5 y) ∧ r2 = nI 0 ∧ g2 = up g1 20 0 20 1) ∨ (Bt 7 x ∧ Bt 5 y ∧ (¬ g1 20 0 19 = 114 ∨ g1 20 0 22 = 8) ∧ r2 = nI 0 ∧ g2 = up g1 20 0 20 2) ∨ (∃ a0 b0, 1 ≤ a0 ∧ a0 ≤ 7 ∧ x = nI a0 ∧ 1 ≤ b0 ∧ b0 ≤ 5 ∧ y = nI b0 ∧ g1 20 0 19 = 114 ∧ ¬ g1 20 0 22 = 8 ∧ r2 = nI (g1 20 0 22) ∧ g2 = up (mSe (up (up (up g1 20 0 20 0) 37 0 (g1 20 0 22) a0) 38 0 (g1 20 0 22) b0) (g1 20 0 22) 0 3) 20 0 22 (g1 20 0 22 + 1))) : StN g2 r1 r2 := by
  have rn := hR.1.2.1
  have rn6 := hR.1.2.2.1
  have rm := hR.2.1.1
  have rm8 := hR.2.1.2.1
  have rs := hR.2.2.2.2.2.1
  rcases h1 with ⟨rfl, r9, g9, ⟨a, b, ha1, ha7, rfl, hb1, hb5, rfl, hs, hm, rfl, rfl, -⟩, n9, hn9, rfl⟩ | ⟨rfl, rfl, -, hx⟩ | ⟨rfl, rfl, -, hx, hy, hc⟩
  · have e22 : up (slG g a b) 40 0 0 n9 20 0 22 = g 3 1 2 := (slG_o (by omega) (by omega) (by omega)).trans rm.symm
    have e19 : up (slG g a b) 40 0 0 n9 20 0 19 = 114 := (slG_o (by omega) (by omega) (by omega)).trans (rs.symm.trans hs)
    rw [e22, e19] at h2
    rcases h2 with ⟨hx, -, -⟩ | ⟨-, -, hx, -, -⟩ | ⟨a', b', -, ha', hxe, -, hb', hye, -, -, rfl, rfl⟩
    · exact (hx.elim (fun h => h ⟨a, ha1, ha7, rfl⟩) (fun h => h ⟨b, hb1, hb5, rfl⟩)).elim
    · omega
    · obtain rfl : a = a' := nIe (by omega) (by omega) hxe
      obtain rfl : b = b' := nIe (by omega) (by omega) hye
      obtain ⟨b1, -, b3⟩ := bind_eq (g := g) (h := up (up (up (up (slG g a b) 40 0 0 n9) 20 0 20 0) 37 0 (g 3 1 2) a) 38 0 (g 3 1 2) b) (p := 0) (b := 0) (j := g 3 1 2) (fun q hq => by
        show g 6 0 q = up (up (up (up (slG g a b) 40 0 0 n9) 20 0 20 0) 37 0 (g 3 1 2) a) 38 0 (g 3 1 2) b 33 0 q
        rw [up_o (by omega), up_o (by omega), up_o (by omega), up_o (by omega), slG_o (by omega) (by omega) (by omega)]
        exact hR.2.2.1.2.2.1 q hq)
      have hF : ∀ k i q, ¬ (k = 20 ∧ (q = 20 ∨ q = 22)) → ¬ ((k = 37 ∨ k = 38) ∧ q = g 3 1 2) → ¬ (k = 39 ∧ 3 * g 3 1 2 ≤ q ∧ q < 3 * g 3 1 2 + 3) → ¬ k = 40 → up (mSe (up (up (up (up (slG g a b) 40 0 0 n9) 20 0 20 0) 37 0 (g 3 1 2) a) 38 0 (g 3 1 2) b) (g 3 1 2) 0 3) 20 0 22 (g 3 1 2 + 1) k i q = slG g a b k i q := fun k i q c1 c2 c3 c4 => by
        rw [up_o (by omega), b3 k i q c3, up_o (by omega), up_o (by omega), up_o (by omega), up_o (by omega)]
      have s0 : scG g (g 3 1 2) a b 13 (g 3 1 2) 0 = a := by unfold scG; rw [if_pos ⟨rfl, rfl⟩, if_pos rfl]
      have s1 : scG g (g 3 1 2) a b 13 (g 3 1 2) 1 = b := by unfold scG; rw [if_pos ⟨rfl, rfl⟩, if_neg (by decide), if_pos rfl]
      refine ⟨0, by decide, rfl, ?_, fun _ => ?_, Rel_seal hR (hK hs) hm ?_ ?_ ?_ ?_ (fun q hq => ?_) (fun k i q h1 h2 h3 h4 h5 h6 h7 h8 h9 => ?_), fun h => ?_⟩
      · rw [up_o (by omega), b3 20 0 20 (by omega), up_o (by omega), up_o (by omega), up_at, if_pos ⟨rfl, rfl, rfl⟩]
      · rw [up_o (by omega), b3 40 0 0 (by omega), up_o (by omega), up_o (by omega), up_o (by omega), up_at, if_pos ⟨rfl, rfl, rfl⟩]
        exact hn9.symm
      · rw [hF _ _ _ (by omega) (by omega) (by omega) (by omega)]; exact slG_2
      · rw [up_at, if_pos ⟨rfl, rfl, rfl⟩]
      · rw [hF 13 _ _ (by omega) (by omega) (by omega) (by omega), slG_13, s0, up_o (by omega), b3 37 0 _ (by omega), up_o (by omega), up_at, if_pos ⟨rfl, rfl, rfl⟩]
      · rw [hF 13 _ _ (by omega) (by omega) (by omega) (by omega), slG_13, s1, up_o (by omega), b3 38 0 _ (by omega), up_at, if_pos ⟨rfl, rfl, rfl⟩]
      · rw [hF 14 _ _ (by omega) (by omega) (by omega) (by omega), slG_14 hq, up_o (by omega), ← b1 q hq]
        unfold bnT
        rw [up_at, up_at, up_at]
        rcases (show q = 0 ∨ q = 1 ∨ q = 2 by omega) with rfl | rfl | rfl <;> simp
      · rw [hF k i q (by omega) (by omega) (by omega) (by omega)]
        exact slG_o h5 h6 h7
      · rw [hF _ _ _ (by omega) (by omega) (by omega) (by omega), slG_o (by omega) (by omega) (by omega)]
        exact hK hs
  · rcases h2 with ⟨-, rfl, rfl⟩ | ⟨hx', hy', -⟩ | ⟨a', b', h1', ha', hxe, h2', hb', hye, -⟩
    · exact stN_x hR hK (by decide) (by decide) _
    · exact (hx.elim (fun h => h hx') (fun h => h hy')).elim
    · exact (hx.elim (fun h => h ⟨a', h1', ha', hxe⟩) (fun h => h ⟨b', h2', hb', hye⟩)).elim
  · rcases h2 with ⟨hx', -, -⟩ | ⟨-, -, -, rfl, rfl⟩ | ⟨a', b', -, -, -, -, -, -, h9, h8, -, -⟩
    · exact (hx'.elim (fun h => h hx) (fun h => h hy)).elim
    · exact stN_x hR hK (by decide) (by decide) _
    · exact (hc.elim (fun h => h (rs.trans h9)) (fun h => by omega)).elim

theorem st_openShare {g g1 g2 : T3} {x y z u : Int32} {b : Nat} {r1 : Int32} {r2 : UInt32} (hR : Rel g) (hK : Kv g) (hO : okk g)
    (h1 : (r1 = nI 0 ∧ ∃ r9 g9, (¬ g 3 1 2 = 0 ∧ r9 = FP.fdiv (FP.i2f (nI (cOp g (g 3 1 2)))) (FP.i2f (nI (g 3 1 2))) ∧ g = g9) ∧ g1 = up g9 41 0 0 (FP.f2d r9).toNat) ∨ (r1 = nI 1 ∧ g = g1 ∧ (g 3 1 2 = 0)))
    (h2 : (g1 20 0 22 = 0 ∧ g2 = up g1 20 0 20 1) ∨ (¬ g1 20 0 22 = 0 ∧ r2 = FP.fdiv (FP.i2f (nI (mOp g1 (g1 20 0 22)))) (FP.i2f (nI (g1 20 0 22))) ∧ g2 = up g1 20 0 20 0)) : StF g2 r1 r2 := by
  have rn := hR.1.2.1
  have rn6 := hR.1.2.2.1
  have rm := hR.2.1.1
  have rm8 := hR.2.1.2.1
  have rs := hR.2.2.2.2.2.1
  rcases h1 with ⟨rfl, r9, g9, ⟨hm, rfl, rfl⟩, rfl⟩ | ⟨rfl, rfl, hx⟩
  · rcases (show (g 20 0 22 = 0 ∧ g2 = up (up g 41 0 0 (FP.f2d (FP.fdiv (FP.i2f (nI (cOp g (g 3 1 2)))) (FP.i2f (nI (g 3 1 2))))).toNat) 20 0 20 1) ∨ (¬ g 20 0 22 = 0 ∧ r2 = FP.fdiv (FP.i2f (nI (mOp g (g 20 0 22)))) (FP.i2f (nI (g 20 0 22))) ∧ g2 = up (up g 41 0 0 (FP.f2d (FP.fdiv (FP.i2f (nI (cOp g (g 3 1 2)))) (FP.i2f (nI (g 3 1 2))))).toNat) 20 0 20 0) from h2) with ⟨hz, -⟩ | ⟨-, rfl, rfl⟩
    · omega
    · refine ⟨0, by decide, rfl, rfl, fun _ => ⟨?_, cOp g (g 3 1 2), g 3 1 2, ?_, by omega, hm, ?_⟩, Rel_th (Rel_out hR 41 _ (by decide)) 0, hK⟩
      · show UInt64.ofNat (FP.f2d (FP.fdiv (FP.i2f (nI (cOp g (g 3 1 2)))) (FP.i2f (nI (g 3 1 2))))).toNat = _
        rw [UInt64.ofNat_toNat, cOp_eq hR, rm]
      · exact Nat.lt_of_le_of_lt (cOp_le g _) (by omega)
      · rw [cOp_eq hR, rm]
  · rcases h2 with ⟨-, rfl⟩ | ⟨hz, -, -⟩
    · exact ⟨1, by decide, rfl, rfl, fun h => absurd h (by decide), Rel_th hR 1, hK⟩
    · omega

theorem st_meanVersion {g g1 g2 : T3} {x y z u : Int32} {b : Nat} {r1 : Int32} {r2 : UInt64} (hR : Rel g) (hK : Kv g) (hO : okk g)
    (h1 : (r1 = nI 0 ∧ ∃ r9 g9, (¬ cRun g = 0 ∧ r9 = FP.ddiv (FP.i2d (nI (sVer g (cRun g)))) (FP.i2d (nI (cRun g))) ∧ g = g9) ∧ g1 = up g9 41 0 0 r9.toNat) ∨ (r1 = nI 1 ∧ g = g1 ∧ (cRun g = 0)))
    (h2 : (g1 20 0 24 = 0 ∧ g2 = up g1 20 0 20 1) ∨ (¬ g1 20 0 24 = 0 ∧ r2 = FP.ddiv (FP.i2d (nI (mVe g1 (g1 20 0 24)))) (FP.i2d (nI (g1 20 0 24))) ∧ g2 = up g1 20 0 20 0)) : StD g2 r1 r2 := by
  have rn := hR.1.2.1
  have rn6 := hR.1.2.2.1
  have rm := hR.2.1.1
  have rm8 := hR.2.1.2.1
  have rs := hR.2.2.2.2.2.1
  have rc := hR.2.2.1.2.2.2.1
  have hv := sVer_eq hR
  have hb : cRun g ≤ 6 := by
    unfold cRun
    split
    · decide
    · exact hO.le 5 0 5 5 rfl
  have hs9 := sVer_le (fun q => hO.le 9 0 q 98 rfl) (cRun g)
  rcases h1 with ⟨rfl, r9, g9, ⟨hm, rfl, rfl⟩, rfl⟩ | ⟨rfl, rfl, hx⟩
  · rcases (show (g 20 0 24 = 0 ∧ g2 = up (up g 41 0 0 (FP.ddiv (FP.i2d (nI (sVer g (cRun g)))) (FP.i2d (nI (cRun g)))).toNat) 20 0 20 1) ∨ (¬ g 20 0 24 = 0 ∧ r2 = FP.ddiv (FP.i2d (nI (mVe g (g 20 0 24)))) (FP.i2d (nI (g 20 0 24))) ∧ g2 = up (up g 41 0 0 (FP.ddiv (FP.i2d (nI (sVer g (cRun g)))) (FP.i2d (nI (cRun g)))).toNat) 20 0 20 0) from h2) with ⟨hz, -⟩ | ⟨-, rfl, rfl⟩
    · omega
    · refine ⟨0, by decide, rfl, rfl, fun _ => ⟨?_, sVer g (cRun g), cRun g, ?_, by omega, hm, ?_⟩, Rel_th (Rel_out hR 41 _ (by decide)) 0, hK⟩
      · show UInt64.ofNat (FP.ddiv (FP.i2d (nI (sVer g (cRun g)))) (FP.i2d (nI (cRun g)))).toNat = _
        rw [UInt64.ofNat_toNat, hv, rc]
      · omega
      · rw [hv, rc]
  · rcases h2 with ⟨-, rfl⟩ | ⟨hz, -, -⟩
    · exact ⟨1, by decide, rfl, rfl, fun h => absurd h (by decide), Rel_th hR 1, hK⟩
    · omega
