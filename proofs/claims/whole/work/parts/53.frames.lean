/-! WHAT A LOOK AHEAD LEAVES ALONE; the relation after install, seal, recover. -/
theorem up_o {g : T3} {k i j v a b q : Nat} (h : ¬ (a = k ∧ b = i ∧ q = j)) : up g k i j v a b q = g a b q := by rw [up_at, if_neg h]
def PF (p : Nat) (g gc : T3) : Prop := ∀ k i j, ¬ (5 ≤ k ∧ k ≤ 9 ∧ i = p) → gc k i j = g k i j
theorem PF.rf (p : Nat) (g : T3) : PF p g g := fun _ _ _ _ => rfl
theorem PF.tr {p : Nat} {g g1 g2 : T3} (h : PF p g g1) (h' : PF p g1 g2) : PF p g g2 := fun k i j a => (h' k i j a).trans (h k i j a)
theorem PF.up {p : Nat} {g gc : T3} (h : PF p g gc) {k j v : Nat} (hk : 5 ≤ k ∧ k ≤ 9) : PF p g (up gc k p j v) := fun a b q hq => by
  rw [up_at, if_neg (by rintro ⟨rfl, rfl, -⟩; exact hq ⟨hk.1, hk.2, rfl⟩)]
  exact h a b q hq
theorem PF_adm (g : T3) (p r q : Nat) : PF p g (adm g p r q) := by
  unfold adm
  dsimp only
  split
  · exact (PF.rf p g).up (by decide)
  · exact (((PF.rf p g).up (by decide)).up (by decide)).up (by decide)
theorem PF_adr0 (g : T3) (p s v : Nat) : PF p g (adr0 g p s v) := by
  unfold adr0
  dsimp only
  split
  · exact PF.rf p g
  · exact (((PF.rf p g).up (by decide)).up (by decide)).up (by decide)
theorem PF_adr (g : T3) (p s v f : Nat) : PF p g (adr g p s v f) := by
  unfold adr
  split
  · exact PF_adr0 g p s v
  · exact (PF_adr0 g p s v).up (by decide)
theorem PF_slot (g : T3) (i s p : Nat) : PF p g (sSlot g i s p).2 := by
  unfold sSlot
  split
  · exact PF.rf p g
  · split
    · exact (PF_adm g p _ _).tr (PF_adr _ p _ _ _)
    · split
      · exact PF_adm g p _ _
      · exact PF.rf p g
theorem PF_stage (g : T3) (i p : Nat) : PF p g (sStage g i p).2 := by
  unfold sStage
  split
  · exact (PF_slot g i _ p).tr (PF_slot _ i _ p)
  · exact PF_slot g i _ p
theorem PF_loop (g0 : T3) (p : Nat) : ∀ k, PF p g0 (sLoop g0 p k).2
  | 0 => PF.rf p g0
  | k + 1 => by
    have ih := PF_loop g0 p k
    show PF p g0 (if (sLoop g0 p k).1 = 0 then sLoop g0 p k else sStage (sLoop g0 p k).2 k p).2
    split
    · exact ih
    · exact ih.tr (PF_stage _ k p)
theorem PF_into (g : T3) (p : Nat) : PF p g (sInto g p) :=
  PF.tr (g1 := clr g p) ((((((PF.rf p g).up (k := 6) (by decide)).up (k := 6) (by decide)).up (k := 6) (by decide)).up (k := 5) (by decide)).up (k := 5) (by decide) |>.up (k := 5) (by decide)) (PF_loop (clr g p) p (g 3 0 2))
theorem mSt_fr2 {g : T3} {i k r j : Nat} (h1 : k ≠ 35) (h2 : k ≠ 36) (h4 : k ≠ 34) (h3 : ¬ (k = 20 ∧ (j = 26 ∨ j = 27 ∨ j = 28))) : (mSt g i).2 k r j = g k r j := by
  have f : ∀ (g : T3) (i s : Nat), (mTr g i s).2 k r j = g k r j := fun g i s => mTr_fr h1 h2 h4 (fun h => h3 ⟨h.1, Or.inl h.2⟩)
  unfold mSt
  split
  · split
    · show (mTr _ _ _).2 k r j = _
      rw [f, f]
    · show up (mTr _ _ _).2 20 0 28 _ k r j = _
      rw [up_at, if_neg (fun h => h3 ⟨h.1, Or.inr (Or.inr h.2.2)⟩), f, f]
  · show (mTr _ _ _).2 k r j = _
    rw [f]
theorem mLp_fr2 {g : T3} {k r j : Nat} (h1 : k ≠ 35) (h2 : k ≠ 36) (h4 : k ≠ 34) (h3 : ¬ (k = 20 ∧ (j = 26 ∨ j = 27 ∨ j = 28))) : ∀ n, (mLp g n).2 k r j = g k r j
  | 0 => rfl
  | n + 1 => by
    have ih := mLp_fr2 (g := g) (r := r) (j := j) h1 h2 h4 h3 n
    show (if (mLp g n).1 = 0 then mLp g n else if (mSt (mLp g n).2 n).1 = 0 then (0, (mSt (mLp g n).2 n).2) else (1, up (mSt (mLp g n).2 n).2 20 0 27 (n + 1))).2 k r j = _
    split
    · exact ih
    · split
      · exact (mSt_fr2 h1 h2 h4 h3).trans ih
      · show up (mSt (mLp g n).2 n).2 20 0 27 (n + 1) k r j = _
        rw [up_at, if_neg (fun h => h3 ⟨h.1, Or.inr (Or.inl h.2.2)⟩)]
        exact (mSt_fr2 h1 h2 h4 h3).trans ih
theorem mGo_fr2 {g : T3} {k r j : Nat} (h1 : k ≠ 35) (h2 : k ≠ 36) (h4 : k ≠ 34) (h3 : ¬ (k = 20 ∧ (j = 26 ∨ j = 27 ∨ j = 28))) : (mGo g).2 k r j = g k r j := by
  show (mLp (mClr g) (g 20 0 21)).2 k r j = _
  rw [mLp_fr2 h1 h2 h4 h3]
  show up (up (up (up (up (up g 20 0 26 0) 20 0 28 0) 36 0 0 0) 36 0 1 0) 36 0 2 0) 20 0 27 0 k r j = _
  rw [up_at, if_neg (fun h => h3 ⟨h.1, Or.inr (Or.inl h.2.2)⟩), up_at, if_neg (fun h => h2 h.1), up_at, if_neg (fun h => h2 h.1), up_at, if_neg (fun h => h2 h.1), up_at, if_neg (fun h => h3 ⟨h.1, Or.inr (Or.inr h.2.2)⟩), up_at, if_neg (fun h => h3 ⟨h.1, Or.inl h.2.2⟩)]
theorem mStt_o {q : Nat × T3} {a r x : Nat} (h : ¬ (30 ≤ a ∧ a ≤ 33)) (h2 : ¬ (a = 20 ∧ (x = 19 ∨ x = 23 ∨ x = 24 ∨ x = 25))) : mStt q a r x = q.2 a r x := by
  unfold mStt
  rw [cpR_at, if_neg (by omega), if_neg (by omega), cpV_at, if_neg (by omega), cpL_at, if_neg (by omega)]
  unfold mA
  rw [up_o (by omega), up_o (by omega), up_o (by omega), up_o (by omega)]
/-- the model's look ahead from where the class has looked ahead -/
theorem go_MF {g B : T3} (n : Nat) (hB : ∀ k i j, 20 ≤ k → k < 34 → B k i j = g k i j) : MF g (up (up B 40 0 0 n) 20 0 20 0) := fun k i j h1 h2 => by
  rw [up_o (by omega), up_o (by omega)]
  exact hB k i j (by omega) (by omega)
theorem go_fr {B : T3} (n : Nat) {k i j : Nat} (h1 : ¬ (34 ≤ k ∧ k ≤ 36)) (h2 : ¬ (k = 20 ∧ (j = 20 ∨ j = 26 ∨ j = 27 ∨ j = 28))) (h3 : ¬ k = 40) : (mGo (up (up B 40 0 0 n) 20 0 20 0)).2 k i j = B k i j := by
  rw [mGo_fr2 (by omega) (by omega) (by omega) (by omega), up_o (by omega), up_o (by omega)]
theorem go_Eq9 (g : T3) (n : Nat) : Eq9 g (mGo (up (up (sInto g 1) 40 0 0 n) 20 0 20 0)).2 := fun k i j h1 h2 h3 h4 => by
  rw [go_fr n h3 h4 (by omega)]
  exact PF_into g 1 k i j (by omega)
theorem Rel_ag2 {g F : T3} (h : Rel g) (hA : ∀ j, j < 5 → F 2 0 j = F 23 0 j) (E : ∀ k i q, k < 40 → ¬ (5 ≤ k ∧ k ≤ 9 ∧ ¬ i = 0) → ¬ (34 ≤ k ∧ k ≤ 36) → ¬ (k = 20 ∧ (q = 20 ∨ q = 26 ∨ q = 27 ∨ q = 28)) → ¬ k = 2 → ¬ k = 23 → F k i q = g k i q) : Rel F := by
  have hg : Eq9 (fun k i q => if k = 2 then F 2 i q else if k = 23 then F 23 i q else g k i q) F := fun k i q h1 h2 h3 h4 => by
    show F k i q = if k = 2 then F 2 i q else if k = 23 then F 23 i q else g k i q
    by_cases e : k = 2
    · rw [if_pos e, e]
    · rw [if_neg e]
      by_cases d : k = 23
      · rw [if_pos d, d]
      · rw [if_neg d]; exact E k i q h1 h2 h3 h4 e d
  refine Rel_cong ?_ hg
  obtain ⟨r1, r2, r3, r4, -, r6⟩ := h
  exact ⟨r1, r2, r3, r4, fun j hj => hA j hj, r6⟩
theorem mO_o {g g' : T3} (h : ∀ k q, 19 ≤ k → k < 40 → g' k 0 q = g k 0 q) (j : Nat) : mO g' j ↔ mO g j := by
  unfold mO mOt bV
  simp only [fun q => h 20 q (by decide) (by decide), fun q => h 37 q (by decide) (by decide), fun q => h 39 q (by decide) (by decide), fun q => h 33 q (by decide) (by decide), fun q => h 36 q (by decide) (by decide)]
theorem mFa_at (g : T3) : ∀ n a r x, mFa g n a r x = if a = 23 ∧ r = 0 ∧ x < n then 0 else g a r x
  | 0, a, r, x => by rw [if_neg (by omega)]; rfl
  | n + 1, a, r, x => by
    show up (mFa g n) 23 0 n 0 a r x = _
    rw [up_at, mFa_at g n]
    by_cases e : a = 23 ∧ r = 0 ∧ x = n
    · rw [if_pos e, if_pos ⟨e.1, e.2.1, by omega⟩]
    · rw [if_neg e]
      by_cases d : a = 23 ∧ r = 0 ∧ x < n
      · rw [if_pos d, if_pos ⟨d.1, d.2.1, by omega⟩]
      · rw [if_neg d, if_neg (fun c => by omega)]
theorem fAg_at (g : T3) : ∀ n a r x, fAg g n a r x = if a = 2 ∧ r = 0 ∧ x < n then 0 else g a r x
  | 0, a, r, x => by rw [if_neg (by omega)]; rfl
  | n + 1, a, r, x => by
    show up (fAg g n) 2 0 n 0 a r x = _
    rw [up_at, fAg_at g n]
    by_cases e : a = 2 ∧ r = 0 ∧ x = n
    · rw [if_pos e, if_pos ⟨e.1, e.2.1, by omega⟩]
    · rw [if_neg e]
      by_cases d : a = 2 ∧ r = 0 ∧ x < n
      · rw [if_pos d, if_pos ⟨d.1, d.2.1, by omega⟩]
      · rw [if_neg d, if_neg (fun c => by omega)]
/-! install -/
theorem insS_eq {g : T3} (h : Rel g) {i : Nat} (hi : i < g 3 0 2) : pSl g i = insS g i := by
  obtain ⟨-, h2, -, -, h5, h6⟩ := h.1.2.2.2 i hi
  have hz := (h6 (g 25 0 i) (by omega)).1
  unfold pSl insS
  rw [h2]
  by_cases c : g 11 i (g 25 0 i) = 0
  · rw [if_pos c, if_pos (hz.mp c)]
  · rw [if_neg c, if_neg (fun e => c (hz.mpr e))]
    split <;> omega
theorem Rel_inst {g F : T3} (h : Rel g) {i s k v q : Nat} (hi : i < g 3 0 2) (hs : s < 2) (hk1 : 1 ≤ k) (hk9 : k ≤ 9)
    (c10 : F 10 i 2 = s) (m25 : F 25 0 i = s) (c11 : F 11 i s = 1) (m27 : F 27 0 (2 * i + s) = k) (c0 : F 12 (2 * i + s) 0 = k) (c1 : F 12 (2 * i + s) 1 = v) (m28 : F 28 0 (2 * i + s) = v) (c2 : F 12 (2 * i + s) 2 = q) (m29 : F 29 0 (2 * i + s) = q) (c3 : F 12 (2 * i + s) 3 = 0) (m22 : F 22 0 (2 * i + s) = 0)
    (E : ∀ a b x, a < 40 → ¬ (5 ≤ a ∧ a ≤ 9 ∧ ¬ b = 0) → ¬ (34 ≤ a ∧ a ≤ 36) → ¬ (a = 20 ∧ (x = 20 ∨ x = 26 ∨ x = 27 ∨ x = 28)) → ¬ (a = 10 ∧ b = i ∧ x = 2) → ¬ (a = 25 ∧ x = i) → ¬ (a = 11 ∧ b = i ∧ x = s) → ¬ (a = 12 ∧ b = 2 * i + s) → ¬ ((a = 27 ∨ a = 28 ∨ a = 29 ∨ a = 22) ∧ x = 2 * i + s) → F a b x = g a b x) : Rel F := by
  have o : ∀ a b x, a < 40 → ¬ (5 ≤ a ∧ a ≤ 9 ∧ ¬ b = 0) → ¬ (34 ≤ a ∧ a ≤ 36) → ¬ (a = 20 ∧ (x = 20 ∨ x = 26 ∨ x = 27 ∨ x = 28)) → ¬ (a = 10 ∨ a = 11 ∨ a = 12 ∨ a = 22 ∨ a = 25 ∨ a = 27 ∨ a = 28 ∨ a = 29) → F a b x = g a b x := fun a b x h1 h2 h3 h4 h5 => E a b x h1 h2 h3 h4 (by omega) (by omega) (by omega) (by omega) (by omega)
  have hg : Eq9 (fun a b x => if a = 10 ∨ a = 11 ∨ a = 12 ∨ a = 22 ∨ a = 25 ∨ a = 27 ∨ a = 28 ∨ a = 29 then F a b x else g a b x) F := fun a b x h1 h2 h3 h4 => by
    show F a b x = if a = 10 ∨ a = 11 ∨ a = 12 ∨ a = 22 ∨ a = 25 ∨ a = 27 ∨ a = 28 ∨ a = 29 then F a b x else g a b x
    by_cases e : a = 10 ∨ a = 11 ∨ a = 12 ∨ a = 22 ∨ a = 25 ∨ a = 27 ∨ a = 28 ∨ a = 29
    · rw [if_pos e]
    · rw [if_neg e]; exact o a b x h1 h2 h3 h4 e
  refine Rel_cong ?_ hg
  obtain ⟨⟨b1, b2, b3, b4⟩, r2, r3, r4, r5⟩ := h
  refine ⟨⟨b1, b2, b3, fun a ha => ?_⟩, r2, r3, fun a h1 h2 => ?_, r5⟩
  · obtain ⟨d1, d2, d3, d4, d5, d6⟩ := b4 a ha
    have e10 : F 10 a 0 = g 10 a 0 := E 10 a 0 (by decide) (by omega) (by omega) (by omega) (by omega) (by omega) (by omega) (by omega) (by omega)
    have e103 : F 10 a 3 = g 10 a 3 := E 10 a 3 (by decide) (by omega) (by omega) (by omega) (by omega) (by omega) (by omega) (by omega) (by omega)
    refine ⟨show F 10 a 0 = g 24 0 a from e10.trans d1, show F 10 a 2 = F 25 0 a from ?_, show F 10 a 3 = g 26 0 a from e103.trans d3, d4, show F 25 0 a ≤ 1 from ?_, fun t ht => ?_⟩
    · by_cases z : a = i
      · rw [z, c10, m25]
      · rw [E 10 a 2 (by decide) (by omega) (by omega) (by omega) (by omega) (by omega) (by omega) (by omega) (by omega), E 25 0 a (by decide) (by omega) (by omega) (by omega) (by omega) (by omega) (by omega) (by omega) (by omega)]; exact d2
    · by_cases z : a = i
      · rw [z, m25]; omega
      · rw [E 25 0 a (by decide) (by omega) (by omega) (by omega) (by omega) (by omega) (by omega) (by omega) (by omega)]; exact d5
    · show (F 11 a t = 0 ↔ F 27 0 (2 * a + t) = 0) ∧ (¬ F 11 a t = 0 → F 12 (2 * a + t) 0 = F 27 0 (2 * a + t) ∧ F 12 (2 * a + t) 1 = F 28 0 (2 * a + t) ∧ F 12 (2 * a + t) 2 = F 29 0 (2 * a + t) ∧ F 12 (2 * a + t) 3 = F 22 0 (2 * a + t) ∧ 1 ≤ F 27 0 (2 * a + t) ∧ F 27 0 (2 * a + t) ≤ 9)
      by_cases z : a = i ∧ t = s
      · obtain ⟨rfl, rfl⟩ := z
        rw [c11, m27, c0, c1, m28, c2, m29, c3, m22]
        exact ⟨⟨fun h => by omega, fun h => by omega⟩, fun _ => ⟨rfl, rfl, rfl, rfl, hk1, hk9⟩⟩
      · have f12 : ∀ x, F 12 (2 * a + t) x = g 12 (2 * a + t) x := fun x => E 12 (2 * a + t) x (by decide) (by omega) (by omega) (by omega) (by omega) (by omega) (by omega) (by omega) (by omega)
        have fm : ∀ c, c = 27 ∨ c = 28 ∨ c = 29 ∨ c = 22 → F c 0 (2 * a + t) = g c 0 (2 * a + t) := fun c hc => E c 0 (2 * a + t) (by omega) (by omega) (by omega) (by omega) (by omega) (by omega) (by omega) (by omega) (by omega)
        rw [E 11 a t (by decide) (by omega) (by omega) (by omega) (by omega) (by omega) (by omega) (by omega) (by omega), fm 27 (by decide), fm 28 (by decide), fm 29 (by decide), fm 22 (by decide), f12, f12, f12, f12]
        exact d6 t ht
  · obtain ⟨z1, z2, z3⟩ := r4 a h1 h2
    refine ⟨show F 25 0 a = 0 from ?_, z2, fun t ht => show F 27 0 (2 * a + t) = 0 from ?_⟩
    · rw [E 25 0 a (by decide) (by omega) (by omega) (by omega) (by omega) (by have : g 3 0 2 ≤ a := h1; omega) (by omega) (by omega) (by omega)]; exact z1
    · rw [E 27 0 (2 * a + t) (by decide) (by omega) (by omega) (by omega) (by omega) (by omega) (by omega) (by omega) (by have : g 3 0 2 ≤ a := h1; omega)]; exact z3 t ht
/-! seal -/
theorem Rel_seal {g F : T3} (h : Rel g) (hn : 0 < g 3 0 2) (hm : g 3 1 2 < 8) (hF : F 3 1 2 = g 3 1 2 + 1) (hM : F 20 0 22 = g 3 1 2 + 1) (h0 : F 13 (g 3 1 2) 0 = F 37 0 (g 3 1 2)) (h1 : F 13 (g 3 1 2) 1 = F 38 0 (g 3 1 2)) (hv : ∀ q, q < 3 → F 14 (g 3 1 2) q = F 39 0 (3 * g 3 1 2 + q))
    (E : ∀ a b x, a < 40 → ¬ (5 ≤ a ∧ a ≤ 9 ∧ ¬ b = 0) → ¬ (34 ≤ a ∧ a ≤ 36) → ¬ (a = 20 ∧ (x = 20 ∨ x = 22 ∨ x = 26 ∨ x = 27 ∨ x = 28)) → ¬ (a = 3 ∧ b = 1) → ¬ a = 4 → ¬ ((a = 13 ∨ a = 14) ∧ b = g 3 1 2) → ¬ ((a = 37 ∨ a = 38) ∧ x = g 3 1 2) → ¬ (a = 39 ∧ 3 * g 3 1 2 ≤ x ∧ x < 3 * g 3 1 2 + 3) → F a b x = g a b x) : Rel F := by
  have hg : Eq9 (fun a b x => if a = 3 ∨ a = 4 ∨ a = 13 ∨ a = 14 ∨ a = 37 ∨ a = 38 ∨ a = 39 ∨ (a = 20 ∧ x = 22) then F a b x else g a b x) F := fun a b x h1 h2 h3 h4 => by
    show F a b x = if a = 3 ∨ a = 4 ∨ a = 13 ∨ a = 14 ∨ a = 37 ∨ a = 38 ∨ a = 39 ∨ (a = 20 ∧ x = 22) then F a b x else g a b x
    by_cases e : a = 3 ∨ a = 4 ∨ a = 13 ∨ a = 14 ∨ a = 37 ∨ a = 38 ∨ a = 39 ∨ (a = 20 ∧ x = 22)
    · rw [if_pos e]
    · rw [if_neg e]; exact E a b x h1 h2 h3 (by omega) (by omega) (by omega) (by omega) (by omega) (by omega)
  refine Rel_cong ?_ hg
  have f3 : F 3 0 2 = g 3 0 2 := E 3 0 2 (by decide) (by omega) (by omega) (by omega) (by omega) (by omega) (by omega) (by omega) (by omega)
  obtain ⟨⟨b1, b2, b3, b4⟩, ⟨s1, s2, s3, s4⟩, ⟨l1, l2, l3, l4, l5, l6, l7⟩, r4, r5, r6, r7, r8⟩ := h
  refine ⟨⟨b1, ?_, ?_, fun i hi => ?_⟩, ⟨?_, ?_, fun j hj => ?_, fun _ => ?_⟩, ⟨l1, l2, l3, l4, l5, ?_, fun e => ?_⟩, fun i hi => ?_, r5, r6, r7, r8⟩
  · show F 3 0 2 = g 20 0 21
    rw [f3]; exact b2
  · show F 3 0 2 ≤ 6
    rw [f3]; exact b3
  · have hi : i < F 3 0 2 := hi
    rw [f3] at hi
    exact b4 i hi
  · show F 3 1 2 = F 20 0 22
    rw [hF, hM]
  · show F 3 1 2 ≤ 8
    omega
  · have hj : j < F 3 1 2 := hj
    rw [hF] at hj
    show F 13 j 0 = F 37 0 j ∧ F 13 j 1 = F 38 0 j ∧ ∀ q, q < 3 → F 14 j q = F 39 0 (3 * j + q)
    by_cases z : j = g 3 1 2
    · rw [z]; exact ⟨h0, h1, hv⟩
    · obtain ⟨t1, t2, t3⟩ := s3 j (by omega)
      have e13 : ∀ x, F 13 j x = g 13 j x := fun x => E 13 j x (by decide) (by omega) (by omega) (by omega) (by omega) (by omega) (by omega) (by omega) (by omega)
      have e14 : ∀ x, F 14 j x = g 14 j x := fun x => E 14 j x (by decide) (by omega) (by omega) (by omega) (by omega) (by omega) (by omega) (by omega) (by omega)
      rw [e13, e13, E 37 0 j (by decide) (by omega) (by omega) (by omega) (by omega) (by omega) (by omega) (by omega) (by omega), E 38 0 j (by decide) (by omega) (by omega) (by omega) (by omega) (by omega) (by omega) (by omega) (by omega)]
      exact ⟨t1, t2, fun q hq => by rw [e14, E 39 0 (3 * j + q) (by decide) (by omega) (by omega) (by omega) (by omega) (by omega) (by omega) (by omega) (by omega)]; exact t3 q hq⟩
  · show 0 < F 3 0 2
    rw [f3]; exact hn
  · show g 5 0 5 ≤ F 3 0 2
    rw [f3]; exact l6
  · show g 5 0 5 = F 3 0 2
    rw [f3]; exact l7 e
  · have hi : F 3 0 2 ≤ i := hi
    rw [f3] at hi
    exact r4 i hi
