/-- a counted loop: from k0 on to N; I: what holds at its head, lo: the locals there -/
theorem k_loop {p : Program} {l : Launch} {e : Env} {R : Room} {s : State} {m : MethodId} {args : Array Value} {below : List Frame} {meth : Method} {c : Code} {H : Heap} {locs : List Loc} {cells slots : Nat} {Q : State → Prop} {D : va_G} {Z : Nat → Nat} {N0 : Nat} {ad : T2} {pc : Nat} {ls : Array Slot} {g0 : T3} {σ : Type} {a0 : σ} (N nL k0 : Nat) (I : Nat → T3 → σ → Prop) (lo : Nat → σ → List (Nat × Value)) (hk : k0 ≤ N) (h0 : I k0 g0 a0) (hW : Wd D Z N0 g0 ad H) (hS : va_S (AA N0) s.heap H locs) (hl : lv_has ls nL (lo k0 a0))
    (step : ∀ (n k : Nat) (gk : T3) (a : σ) (H : Heap) (locs : List Loc) (ls : Array Slot), k + n = N → I k gk a → Wd D Z N0 gk ad H → va_S (AA N0) s.heap H locs → lv_has ls nL (lo k a) →
      (k < N → ∀ (g1 : T3) (a1 : σ) (H1 : Heap) (locs1 : List Loc) (ls1 : Array Slot), I (k + 1) g1 a1 → Wd D Z N0 g1 ad H1 → va_S (AA N0) s.heap H1 locs1 → lv_has ls1 nL (lo (k + 1) a1) → W p l e R s m args below meth c H1 locs1 cells slots Q (F0 m pc ls1 [])) →
      W p l e R s m args below meth c H locs cells slots Q (F0 m pc ls [])) : W p l e R s m args below meth c H locs cells slots Q (F0 m pc ls []) := by
  have key : ∀ (n k : Nat) (gk : T3) (a : σ) (H : Heap) (locs : List Loc) (ls : Array Slot), k + n = N → I k gk a → Wd D Z N0 gk ad H → va_S (AA N0) s.heap H locs → lv_has ls nL (lo k a) → W p l e R s m args below meth c H locs cells slots Q (F0 m pc ls []) := by
    intro n
    induction n with
    | zero => exact fun k gk a H locs ls h1 h2 h3 h4 h5 => step 0 k gk a H locs ls h1 h2 h3 h4 h5 (fun h => absurd h (by omega))
    | succ n ih => exact fun k gk a H locs ls h1 h2 h3 h4 h5 => step (n + 1) k gk a H locs ls h1 h2 h3 h4 h5 (fun _ g1 a1 H1 locs1 ls1 q1 q2 q3 q4 => ih (k + 1) g1 a1 H1 locs1 ls1 (by omega) q1 q2 q3 q4)
  exact key (N - k0) k0 g0 a0 H locs ls (by omega) h0 hW hS hl
theorem lv12 {g : T3} {i s : Nat} (h : i < g 3 0 3) (hs : s < 2) (hn : ¬ g 11 i s = 0) : lv g 12 (2 * i + s) := by
  have h1 : (2 * i + s) / 2 = i := by omega
  have h2 : (2 * i + s) % 2 = s := by omega
  show (2 * i + s) / 2 < g 3 0 3 ∧ g 11 ((2 * i + s) / 2) ((2 * i + s) % 2) ≠ 0
  rw [h1, h2]
  exact ⟨h, hn⟩
def sumN (f : Nat → Nat) : Nat → Nat
  | 0 => 0
  | k + 1 => sumN f k + f k
theorem sumN_le {f : Nat → Nat} {b : Nat} (h : ∀ k, f k ≤ b) : ∀ n, sumN f n ≤ n * b
  | 0 => Nat.zero_le _
  | n + 1 => by
    have h1 := sumN_le h n
    have h2 := h n
    show sumN f n + f n ≤ (n + 1) * b
    rw [Nat.add_mul, Nat.one_mul]
    omega
theorem sumN_congr {f f' : Nat → Nat} {n : Nat} (h : ∀ k, k < n → f k = f' k) : sumN f n = sumN f' n := by
  induction n with
  | zero => rfl
  | succ n ih =>
    show sumN f n + f n = sumN f' n + f' n
    rw [ih (fun k hk => h k (by omega)), h n (by omega)]
/-! WHAT THE CLASS'S METHODS DO, as functions of the state. -/
def fil (g : T3) (p : Nat) : Nat → T3
  | 0 => g
  | k + 1 => up (fil g p k) 6 p k 0
def clr (g : T3) (p : Nat) : T3 := up (up (up (fil g p 3) 5 p 2 0) 5 p 5 0) 5 p 6 0
def adm (g : T3) (p r q : Nat) : T3 :=
  let g1 := up g 6 p r ((31 * g 6 p r + q + 1) % 9973)
  if 12 ≤ g1 5 p 2 then g1 else
    let g2 := up g1 7 p (g1 5 p 2) (1000 * r + q)
    up g2 5 p 2 (g2 5 p 2 + 1)
def adr0 (g : T3) (p s v : Nat) : T3 :=
  if 6 ≤ g 5 p 5 then g else
    let g1 := up g 8 p (g 5 p 5) s
    let g2 := up g1 9 p (g1 5 p 5) v
    up g2 5 p 5 (g2 5 p 5 + 1)
def adr (g : T3) (p s v f : Nat) : T3 := if f = 0 then adr0 g p s v else up (adr0 g p s v) 5 p 6 (adr0 g p s v 5 p 6 + 1)
def jg (g : T3) (i s : Nat) : Nat :=
  if g 11 i s = 0 then 101 else if g 1 0 (g 12 (2 * i + s) 0) = 0 then 107 else if g 10 i 3 ≤ g 12 (2 * i + s) 1 then (if g 12 (2 * i + s) 3 = 0 then 45 else 98) else 118
theorem jg_le (g : T3) (i s : Nat) : jg g i s ≤ 127 := by
  unfold jg
  repeat' split
  all_goals omega
def sSlot (g : T3) (i s p : Nat) : Nat × T3 :=
  if g 11 i s = 0 then (0, g) else
  if jg g i s = 45 then
    let g1 := adm g p (g 10 i 0) (g 12 (2 * i + s) 2)
    (1, adr g1 p s (g1 12 (2 * i + s) 1) (if s = g1 10 i 2 then 0 else 1))
  else if jg g i s = 98 then (0, adm g p (g 10 i 0) (g 12 (2 * i + s) 2)) else (0, g)
theorem sSlot_le (g : T3) (i s p : Nat) : (sSlot g i s p).1 ≤ 1 := by
  unfold sSlot
  repeat' split
  all_goals first | exact Nat.zero_le _ | exact Nat.le_refl _
def sStage (g : T3) (i p : Nat) : Nat × T3 :=
  if (sSlot g i (g 10 i 2) p).1 = 0 then sSlot (sSlot g i (g 10 i 2) p).2 i (if (sSlot g i (g 10 i 2) p).2 10 i 2 = 0 then 1 else 0) p else (1, (sSlot g i (g 10 i 2) p).2)
theorem sStage_le (g : T3) (i p : Nat) : (sStage g i p).1 ≤ 1 := by
  unfold sStage
  split
  · exact sSlot_le _ _ _ _
  · exact Nat.le_refl _
def sLoop (g0 : T3) (p : Nat) : Nat → Nat × T3
  | 0 => (1, g0)
  | k + 1 => if (sLoop g0 p k).1 = 0 then sLoop g0 p k else sStage (sLoop g0 p k).2 k p
theorem sLoop_s {g0 : T3} {p k : Nat} (h : ¬ (sLoop g0 p k).1 = 0) : sLoop g0 p (k + 1) = sStage (sLoop g0 p k).2 k p := if_neg h
theorem sLoop_0 {g0 : T3} {p k : Nat} (h : (sLoop g0 p k).1 = 0) : ∀ m, sLoop g0 p (k + m) = sLoop g0 p k
  | 0 => rfl
  | m + 1 => by
    have h1 := sLoop_0 h m
    show (if (sLoop g0 p (k + m)).1 = 0 then sLoop g0 p (k + m) else sStage (sLoop g0 p (k + m)).2 (k + m) p) = _
    rw [h1, if_pos h]
def sInto (g : T3) (p : Nat) : T3 := (sLoop (clr g p) p (g 3 0 2)).2
/-- whether a register is sealed -/
def bit (r q : Nat) : Nat := r / 2 ^ q % 2
/-- how many registers of secret j differ from those of pass p -/
def oth (g : T3) (j p : Nat) : Nat := sumN (fun q => if bit (g 13 j 0) q = 1 ∧ ¬ g 14 j q = g 6 p q then 1 else 0) 3
theorem oth_le (g : T3) (j p : Nat) : oth g j p ≤ 3 := sumN_le (b := 1) (fun k => by split <;> omega) 3
def bnT (g : T3) (j p : Nat) : T3 := up (up (up g 14 j 0 (g 6 p 0)) 14 j 1 (g 6 p 1)) 14 j 2 (g 6 p 2)
def isO (g : T3) (j : Nat) : Prop := g 0 0 6 = 114 ∧ oth g j 0 = 0
def cAg (g : T3) : Nat := sumN (fun q => if g 2 0 q = 0 then 0 else 1) 5
theorem cAg_le (g : T3) : cAg g ≤ 5 := sumN_le (b := 1) (fun k => by split <;> omega) 5
def fAg (g : T3) : Nat → T3
  | 0 => g
  | k + 1 => up (fAg g k) 2 0 k 0
def cRun (g : T3) : Nat := if g 0 0 6 = 111 then 0 else g 5 0 5
