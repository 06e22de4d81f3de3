theorem Wd.row {D : va_G} {Z : Nat → Nat} {N0 : Nat} {g g' : T3} {ad : T2} {H H1 : Heap} (hW : Wd D Z N0 g ad H) {k i : Nat} (hk : k ≠ 3 ∧ k ≠ 4 ∧ k ≠ 11) (hl : lv g k i) (ho : ∀ a b, ¬(a = k ∧ b = i) → g' a b = g a b) (hv : ∀ j, bnd k j = 0 ∨ g' k i j ≤ bnd k j) (ha : va_at D vwCl (ad k i, ct Z ad k i (g' k i)) H1) (oq : ∀ q : Nat, q ≠ ad k i → H1[q]? = H[q]?) : Wd D Z N0 g' ad H1 := by
  obtain ⟨h1, h2, h3, h4⟩ := hW
  have f3 : ∀ b q, g' 3 b q = g 3 b q := fun b q => by rw [ho 3 b (fun z => hk.1 z.1.symm)]
  have f4 : ∀ b q, g' 4 b q = g 4 b q := fun b q => by rw [ho 4 b (fun z => hk.2.1 z.1.symm)]
  have f11 : ∀ b q, g' 11 b q = g 11 b q := fun b q => by rw [ho 11 b (fun z => hk.2.2 z.1.symm)]
  have e : ∀ a b, lv g' a b → lv g a b := fun a b h => lv_of (fun b q _ => f3 b q) f11 h
  refine ⟨fun a b h => ?_, fun a b a' b' x y z => h2 a b a' b' (e _ _ x) (e _ _ y) z, fun a b q => ?_, h4.of (fun b q _ => f3 b q) f4⟩
  · obtain ⟨q1, q2⟩ := h1 a b (e _ _ h)
    by_cases c : a = k ∧ b = i
    · obtain ⟨rfl, rfl⟩ := c
      exact ⟨ha, q2⟩
    · rw [ho a b c]
      exact ⟨q1.kept (oq _ (fun z => c (h2 a b k i (e _ _ h) hl z))), q2⟩
  · by_cases c : a = k ∧ b = i
    · obtain ⟨rfl, rfl⟩ := c
      exact hv q
    · rw [ho a b c]
      exact h3 a b q
theorem bnT_row (g : T3) (j p q : Nat) : bnT g j p 14 j q = if q < 3 then g 6 p q else g 14 j q := by
  unfold bnT
  rcases (show q = 0 ∨ q = 1 ∨ q = 2 ∨ 3 ≤ q by omega) with rfl | rfl | rfl | h
  · simp [up_at]
  · simp [up_at]
  · simp [up_at]
  · rw [if_neg (by omega)]
    simp [up_at, show ¬ q = 0 by omega, show ¬ q = 1 by omega, show ¬ q = 2 by omega]
theorem bnT_oth (g : T3) (j p : Nat) {a b : Nat} (h : ¬(a = 14 ∧ b = j)) : bnT g j p a b = g a b := by
  unfold bnT
  rw [up_n _ _ _ _ _ h, up_n _ _ _ _ _ h, up_n _ _ _ _ _ h]
section ACOPY
variable {p : Program} {l : Launch} {e : Env} {R : Room} {s : State} {m : MethodId} {args : Array Value} {below : List Frame} {meth : Method} {c : Code} {H : Heap} {locs : List Loc} {cells slots : Nat} {Q : State → Prop}
variable {cc : ByteArray} {nL : Nat} {Ts : List Cond} {own : String} {D : va_G} {Z : Nat → Nat} {N0 : Nat} {g : T3} {ad : T2} {pc : Nat} {ls : Array Slot} {rest : List Value}
theorem r_acopy (M : Mx p m c cc nL s args Ts own D Z N0) (hW : Wd D Z N0 g ad H) (hS0 : va_S (AA N0) s.heap H locs) (u j : Nat) (hu : lv g 6 u) (hj : lv g 14 j) {index : Nat} (hlink : Cond.methodLink own index arraycopyName ∈ Ts) (hnat : Cond.native arraycopyName ∈ Ts) (hstat : Cond.static arraycopyName ∈ Ts) (hini : Cond.initialized "java/lang/System" ∈ Ts) (hsz : ls.size = nL)
    (hframes : 1 ≤ R.frames) (hlocals : (rest.map fun v => v.category).sum + (nativeFrameWords "java/lang/System" "arraycopy" 5 + 11) ≤ R.locals) (hdg : decode cc pc = .ok (.invokestatic index, 3))
    (kk : ∀ (H1 : Heap) (locs1 : List Loc), Wd D Z N0 (bnT g j u) ad H1 → va_S (AA N0) s.heap H1 locs1 → W p l e R s m args below meth c H1 locs1 cells slots Q (F0 m (pc + 3) ls rest)) : W p l e R s m args below meth c H locs cells slots Q (F0 m pc ls (.int (nI 3) :: .int (nI 0) :: .ref (ad 14 j) :: .int (nI 0) :: .ref (ad 6 u) :: rest)) := by
  obtain ⟨⟨hx, hb, hml, hown, hts⟩, hK, -, -⟩ := M
  intro T hT X
  have hc0 : H[ad 6 u]? = some (vp_cell (Z 0) (3, .inl fun q => nI (g 6 u q))) := (hW.1 6 u hu).1
  have hc1 : H[ad 14 j]? = some (vp_cell (Z 0) (3, .inl fun q => nI (g 14 j q))) := (hW.1 14 j hj).1
  obtain ⟨-, k0, hk0, cm0, hkk0⟩ := (hK.2 0 _ rfl).1 3 (fun q => .int (nI (g 6 u q)))
  obtain ⟨vm', X', step⟩ := X.arraycopy hx hown (hts _ hlink) (hts _ hnat) (hts _ hstat) (hts _ hini) (src := ad 6 u) (dst := ad 14 j) (cs := vp_cell (Z 0) (3, .inl fun q => nI (g 6 u q))) (cd := vp_cell (Z 0) (3, .inl fun q => nI (g 14 j q))) (srcPos := nI 0) (destPos := nI 0) (n := nI 3) (by rw [hT]; exact hc0) (by rw [hT]; exact hc1)
    (fun _ h => by cases h) (fun _ h => by cases h) (fun h => by cases h) (fun h => by cases h) hk0 hk0 hkk0 hkk0 (by simp [refKind]) (by decide) (by decide) (by decide)
    (by show ¬ _ > ((arrV (Z 0) 3 (fun q => .int (nI (g 6 u q)))).slots.size : Int); rw [arrV_size]; decide)
    (by show ¬ _ > ((arrV (Z 0) 3 (fun q => .int (nI (g 14 j q)))).slots.size : Int); rw [arrV_size]; decide)
    (fun vm₁ _ i hi => by
      have hi : i < 3 := hi
      have e : (vp_cell (Z 0) (3, .inl fun q => nI (g 6 u q))).slots.getD ((nI 0).toNatClampNeg + i) .null = .int (nI (g 6 u ((nI 0).toNatClampNeg + i))) := by
        show (arrV (Z 0) 3 (fun q => .int (nI (g 6 u q)))).slots.getD _ _ = _
        rw [Array.getD_eq_getD_getElem?, arrV_read _ _ (by rw [show (nI 0).toNatClampNeg = 0 from rfl]; omega)]
        rfl
      refine ⟨?_, ?_⟩
      · rw [e]
        rfl
      · rw [e]
        exact trivial)
    (g := F0 m pc ls (.int (nI 3) :: .int (nI 0) :: .ref (ad 14 j) :: .int (nI 0) :: .ref (ad 6 u) :: rest)) rfl (hsz.trans hml.symm) (rest := rest) rfl (by rw [hb]; exact hdg) hframes (by show 2 * 0 + _ + _ ≤ _; omega)
  have e1 : copied (vp_cell (Z 0) (3, .inl fun q => nI (g 6 u q))) (vp_cell (Z 0) (3, .inl fun q => nI (g 14 j q))) (nI 0) (nI 0) (nI 3) = vp_cell (Z 0) (3, .inl (va_cpy (fun q => nI (g 6 u q)) (fun q => nI (g 14 j q)) (nI 0).toNatClampNeg (nI 0).toNatClampNeg (nI 3).toNatClampNeg)) := va_copied (fun z => .int z) (Z 0) (Z 0) (n0 := 3) (n1 := 3) (sp := (nI 0).toNatClampNeg) (dp := (nI 0).toNatClampNeg) (n := (nI 3).toNatClampNeg) (fun q => nI (g 6 u q)) (fun q => nI (g 14 j q)) (by decide)
  have e2 : va_cpy (fun q => nI (g 6 u q)) (fun q => nI (g 14 j q)) (nI 0).toNatClampNeg (nI 0).toNatClampNeg (nI 3).toNatClampNeg = fun q => nI (bnT g j u 14 j q) := by
    funext q
    show (if 0 ≤ q ∧ q < 0 + 3 then nI (g 6 u (0 + (q - 0))) else nI (g 14 j q)) = _
    rw [bnT_row]
    by_cases h : q < 3
    · rw [if_pos ⟨Nat.zero_le _, by omega⟩, if_pos h, Nat.zero_add, Nat.sub_zero]
    · rw [if_neg (by omega), if_neg h]
  rw [e1, e2] at X' step
  have hlt : ad 14 j < H.size := (Array.getElem?_eq_some_iff.mp hc1).1
  generalize hcv : vp_cell (Z 0) (3, .inl fun q => nI (bnT g j u 14 j q)) = cv at X' step
  have hheap : ((T.setVm vm').setCell (ad 14 j) cv).heap = H.setIfInBounds (ad 14 j) cv := by rw [← hT]; rfl
  have oq : ∀ q : Nat, q ≠ ad 14 j → (H.setIfInBounds (ad 14 j) cv)[q]? = H[q]? := fun q hq => by simp [Array.getElem?_setIfInBounds, Ne.symm hq]
  have hA := (hW.1 14 j hj).2
  obtain ⟨t, a1, b1⟩ := kk _ _ (hW.row (g' := bnT g j u) (k := 14) (i := j) (by decide) hj (fun a b h => bnT_oth g j u h) (fun q => Or.inr (by
      rw [bnT_row]
      split
      · exact (hW.2.2.1.le 6 u q 9971 rfl)
      · exact (hW.2.2.1.le 14 j q 9971 rfl))) (show (H.setIfInBounds (ad 14 j) cv)[ad 14 j]? = some (vp_cell _ _) by rw [← hcv]; simp [Array.getElem?_setIfInBounds, hlt]) oq) ⟨by simp; exact hS0.1, fun q g1 g2 => by
      rw [oq q (fun e => g2 (by rw [e]; exact hA))]
      exact hS0.2.1 q g1 g2, fun q hq => by
      rcases List.mem_append.mp hq with h | h
      · exact hS0.2.2 q h
      · obtain ⟨z, -, hz⟩ := List.mem_map.mp h
        rw [← hz]
        exact hA⟩ _ hheap X'
  exact ⟨t, step t a1, b1⟩
end ACOPY
theorem sh3 {q : Nat} (h : q < 3) : ((nI q &&& 31).toBitVec.smod 32).toNat = q := by
  rcases (show q = 0 ∨ q = 1 ∨ q = 2 by omega) with rfl | rfl | rfl <;> decide
