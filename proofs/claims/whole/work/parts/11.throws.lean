/-! THROWS: 'throw new E(text)' in StartChain, for the five classes whose constructors link at 7. -/
def thN : List String := ["java/lang/RuntimeException", "java/lang/Exception"]
def ngB (cls : String) : List Cond := [.castable cls cls, .declares (Bundle.initS Bundle.tN), .declares (Bundle.initS "java/lang/Exception"), .declares (Bundle.initS "java/lang/RuntimeException")]
theorem thN_fit : ∀ n ∈ thN, Bundle.fit n = true := by decide +kernel
theorem ngB_ok {N0 : Nat} {Z : Nat → Nat} {s : State} {args : Array Value} (h : EV N0 Z s) {cls : String} (hc : (cls, cls) ∈ casL) : ∀ w ∈ ngB cls, w.before args s = true := by
  obtain ⟨-, -, h4, h5, -⟩ := h
  exact vx_c (va_Nw.use rfl (h4 _ hc)) (vx_c (va_Nw.use rfl (h5 "java/lang/Throwable" (by decide))) (vx_c (va_Nw.use rfl (h5 "java/lang/Exception" (by decide))) (vx_c (va_Nw.use rfl (h5 "java/lang/RuntimeException" (by decide))) vx_n)))
section THROW
variable {p : Program} {l : Launch} {e : Env} {R : Room} {s : State} {m : MethodId} {args : Array Value} {below : List Frame} {meth : Method} {c : Code} {H : Heap} {locs : List Loc} {cells slots : Nat}
variable {cc : ByteArray} {nL mc ms : Nat} {Ts : List Cond} {D : va_G} {Z : Nat → Nat} {N0 : Nat} {g : T3} {ad : T2} {pc : Nat} {ls : Array Slot} {rest : List Value} {Qc : Array Value → State → Outcome → State → Prop} {px : String → Prop}
theorem k_end (hW : Wd D Z N0 g ad H) (hS : va_S (AA N0) s.heap H locs) {cls : String} (hE : px cls) : ∀ t : State, s.vm.Alike t.vm → H.size ≤ t.heap.size → (∀ q : Nat, q < H.size → t.heap[q]? = H[q]?) → QX D Z N0 g ad px cls s t :=
  fun t _ hz hk => ⟨(), trivial, ⟨hE, hW.kept hk⟩, Nat.le_trans hS.1 hz, fun q h1 h2 => (hk q (Nat.lt_of_lt_of_le h1 hS.1)).trans (hS.2.1 q h1 h2)⟩
theorem k_throw (M : Mx p m c cc nL s args Ts RX4 D Z N0) (hfl : l.stackTraces = false) (hW : Wd D Z N0 g ad H) (hS : va_S (AA N0) s.heap H locs) {cls text : String} {ik is ic : Nat} (hq : (is, text) ∈ strL) (hcs : (cls, cls) ∈ casL) (hcls : Bundle.fit cls = true) (hgood : ∀ w ∈ Cond.classLink RX4 ik cls :: Cond.initialized cls :: vx_atS RX4 ic cls thN, vx_ot w = true) (hng : ∀ w ∈ (vx_atS RX4 ic cls thN).filter (fun w => !goodWord w), w ∈ ngB cls)
    (hk : Cond.classLink RX4 ik cls ∈ Ts) (hini : Cond.initialized cls ∈ Ts) (hsub : ∀ w ∈ (vx_atS RX4 ic cls thN).filter goodWord, w ∈ Ts) (hsz : ls.size = nL) (hout : ∀ x ∈ c.exceptionTable.toList, False) (hlocks : meth.locks = false) (hE : px cls)
    (d0 : decode cc pc = .ok (.new ik, 3)) (d3 : decode cc (pc + 3) = .ok (.dup, 1)) (d4 : decode cc (pc + 4) = .ok (.ldc is, 2)) (d6 : decode cc (pc + 6) = .ok (.invokespecial ic, 3)) (d9 : decode cc (pc + 9) = .ok (.athrow, 1))
    (hRf : 5 < R.frames) (hRl : (rest.map fun v => v.category).sum + 82 ≤ R.locals) (hRc : cells + 1 ≤ R.cells) (hRs : slots + 6 ≤ R.slots) (hc : cells + 1 ≤ mc) (hs : slots + 6 ≤ ms) :
    W p l e R s m args below meth c H locs cells slots (vx_MQ below Qc (QX D Z N0 g ad px) args s mc ms (AA N0)) (F0 m pc ls rest) := by
  obtain ⟨⟨hx, hb, hml, hown, hts⟩, hC⟩ := M
  obtain ⟨a, ha⟩ := hC.2.2.2.1 _ hq
  exact vx_throwS (A := AA N0) (names := thN) hx hb hfl hown hcls thN_fit (hts _ hk) (hts _ hini) ha (vx_hat (fun w h => hts w (hsub w h)) hng (ngB_ok hC.2.2 hcs)) hgood hC.2.2.1.1 hC.2.2.1.2 hS (hsz.trans hml.symm) d0 d3 d4 d6 d9 (fun x hx => absurd (hout x hx) id) hRf hRl hRc hRs hlocks (k_end hW hS hE) hS.2.2 hc hs
end THROW
theorem g_IAE : ∀ w ∈ Cond.classLink RX4 48 "java/lang/IllegalArgumentException" :: Cond.initialized "java/lang/IllegalArgumentException" :: vx_atS RX4 52 "java/lang/IllegalArgumentException" thN, vx_ot w = true := by decide +kernel
theorem n_IAE : ∀ w ∈ (vx_atS RX4 52 "java/lang/IllegalArgumentException" thN).filter (fun w => !goodWord w), w ∈ ngB "java/lang/IllegalArgumentException" := by decide +kernel
theorem g_ISE : ∀ w ∈ Cond.classLink RX4 65 "java/lang/IllegalStateException" :: Cond.initialized "java/lang/IllegalStateException" :: vx_atS RX4 69 "java/lang/IllegalStateException" thN, vx_ot w = true := by decide +kernel
theorem n_ISE : ∀ w ∈ (vx_atS RX4 69 "java/lang/IllegalStateException" thN).filter (fun w => !goodWord w), w ∈ ngB "java/lang/IllegalStateException" := by decide +kernel
theorem g_IOO : ∀ w ∈ Cond.classLink RX4 152 "java/lang/IndexOutOfBoundsException" :: Cond.initialized "java/lang/IndexOutOfBoundsException" :: vx_atS RX4 156 "java/lang/IndexOutOfBoundsException" thN, vx_ot w = true := by decide +kernel
theorem n_IOO : ∀ w ∈ (vx_atS RX4 156 "java/lang/IndexOutOfBoundsException" thN).filter (fun w => !goodWord w), w ∈ ngB "java/lang/IndexOutOfBoundsException" := by decide +kernel
theorem g_UOE : ∀ w ∈ Cond.classLink RX4 229 "java/lang/UnsupportedOperationException" :: Cond.initialized "java/lang/UnsupportedOperationException" :: vx_atS RX4 233 "java/lang/UnsupportedOperationException" thN, vx_ot w = true := by decide +kernel
theorem n_UOE : ∀ w ∈ (vx_atS RX4 233 "java/lang/UnsupportedOperationException" thN).filter (fun w => !goodWord w), w ∈ ngB "java/lang/UnsupportedOperationException" := by decide +kernel
theorem g_ARE : ∀ w ∈ Cond.classLink RX4 237 "java/lang/ArithmeticException" :: Cond.initialized "java/lang/ArithmeticException" :: vx_atS RX4 241 "java/lang/ArithmeticException" thN, vx_ot w = true := by decide +kernel
theorem n_ARE : ∀ w ∈ (vx_atS RX4 241 "java/lang/ArithmeticException" thN).filter (fun w => !goodWord w), w ∈ ngB "java/lang/ArithmeticException" := by decide +kernel
