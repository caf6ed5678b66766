/-! WHAT MAY THROW. Kinds of exceptions: 1 IndexOutOfBounds, 2 IllegalState, 3 IllegalArgument -/
def exN (k : Nat) : String := if k = 1 then "java/lang/IndexOutOfBoundsException" else if k = 2 then "java/lang/IllegalStateException" else "java/lang/IllegalArgumentException"
/-- the thrown end of a callee that began with h in a heap of sz cells -/
def tE (D : va_G) (cs : CS) (px : Nat → HS → Prop) (h : HS) (sz mc ms : Nat) (st : State) (q : Addr) (t : State) : Prop :=
  ∃ (k : Nat) (u : HS) (ce : Cell) (L : List Loc), px k u ∧ mB D cs h sz u t ∧ va_F (fA h sz) st t ∧ (t.heap[q]? = some ce ∧ ce.vm = .none ∧ st.vm.findClass (exN k) = some ce.cls) ∧ st.WarmedH t.vm ∧ st.sameButNew ({ t with vm := st.vm } : State) L mc ms ∧ ∀ z ∈ L, fA h sz z.base
def tQ (D : va_G) (cs : CS) (Qc : Array Value → State → Outcome → State → Prop) (px : Nat → HS → Prop) (h : HS) (sz mc ms : Nat) : Array Value → State → Outcome → State → Prop := fun a st o t =>
  (Qc a st o t ∧ ∃ L, FrameEnd st o t L mc ms ∧ ∀ z ∈ L, fA h sz z.base) ∨ ∃ q, o = .threw q ∧ tE D cs px h sz mc ms st q t
def TMet (l : Launch) (y : MethodName) (ws : List Cond) (rm : Room) (D : va_G) (cs : CS) (Pc : Array Value → State → Prop) (Qc : Array Value → State → Outcome → State → Prop) (px : Nat → HS → Prop) (h : HS) (sz mc ms : Nat) : Prop :=
  MetFree l y (headSpec ws rm) Pc (fun _ _ _ _ _ => True) (tQ D cs Qc px h sz mc ms)
def tMQ (D : va_G) (cs : CS) (below : List Frame) (Qc : Array Value → State → Outcome → State → Prop) (px : Nat → HS → Prop) (h : HS) (sz : Nat) (a : Array Value) (s : State) (mc ms : Nat) : State → Prop := fun t =>
  ∃ o, t.status = .running ∧ Ended t below o ∧ tQ D cs Qc px h sz mc ms a s o t
/-- a walk of an exception q over the frame g -/
def tW (p : Program) (l : Launch) (e : Env) (R : Room) (s : State) (m : MethodId) (args : Array Value) (below : List Frame) (meth : Method) (c : Code) (H : Heap) (locs : List Loc) (cells slots : Nat) (Q : State → Prop) (g : JFrame) (q : Addr) : Prop :=
  ∀ T : State, T.heap = H → Stand p l e R s m args below meth c T locs cells slots → ∃ t, Steps p.tables e below ((T.setTop g).pushFrame (.throwing q)) t ∧ Q t
section MXT
variable {p : Program} {l : Launch} {e : Env} {R : Room} {s : State} {m : MethodId} {args : Array Value} {below : List Frame} {meth : Method} {c : Code} {H : Heap} {locs : List Loc} {cells slots : Nat} {Q : State → Prop}
variable {cc : ByteArray} {pc : Nat} {ls : Array Slot} {rest : List Value} {D : va_G} {cs : CS} {Z : Nat → Nat} {h h0 : HS} {px : Nat → HS → Prop} {Qc : Array Value → State → Outcome → State → Prop} {mc ms sz : Nat}
theorem t_ret {g : JFrame} (k : W p l e R s m args below meth c H locs cells slots (MQ below Qc args s mc ms (fA h0 sz)) g) : W p l e R s m args below meth c H locs cells slots (tMQ D cs below Qc px h0 sz args s mc ms) g := by
  intro T hT X
  obtain ⟨t, a1, o, b1, b2, b3, b4⟩ := k T hT X
  exact ⟨t, a1, o, b1, b2, Or.inl ⟨b3, b4⟩⟩
/-- an exception that nobody catches here goes to the caller -/
theorem t_out {k : Nat} {ce : Cell} {q : Addr} (hno : c.exceptionTable.isEmpty = true) (hlocks : meth.locks = false) (hcell : H[q]? = some ce) (hv : ce.vm = .none) (hcl : s.vm.findClass (exN k) = some ce.cls) (hR : mR D cs (fA h0 s.heap.size) h s.heap H locs) (hw : px k h) (hc : cells ≤ mc) (hs : slots ≤ ms) :
    tW p l e R s m args below meth c H locs cells slots (tMQ D cs below Qc px h0 s.heap.size args s mc ms) (F0 m pc ls rest) q := by
  intro T hT X
  have hout : ∀ x ∈ c.exceptionTable.toList, covers x pc = false := fun x hx => by
    have h0 : c.exceptionTable = #[] := by simpa [Array.isEmpty_iff] using hno
    rw [h0] at hx
    cases hx
  obtain ⟨st1, hrun, hend, hW, hsm⟩ := X.leaveThrown q (g := F0 m pc ls rest) rfl rfl rfl hout hlocks
  refine ⟨_, st1, .threw q, hrun, hend, Or.inr ⟨q, rfl, k, h, ce, locs, hw, ?_, ?_, ⟨?_, hv, hcl⟩, hW, hsm.mono hc hs, hR.2.2.2⟩⟩
  · show mP D cs _ h T.heap
    rw [hT]; exact hR.1
  · exact hR.2.F hT
  · show T.heap[q]? = some ce
    rw [hT]; exact hcell
/-- the same place, as if the method were called anew in this heap -/
theorem t_anew {T : State} (X : Stand p l e R s m args below meth c T locs cells slots) {a b : Nat} (hc : cells + a ≤ R.cells) (hs : slots + b ≤ R.slots) :
    Stand p l e { R with cells := a, slots := b } ((T.setVm s.vm).setFrames (.invoking m args :: below)) m args below meth c T [] 0 0 := by
  have htop : (T.setVm s.vm).topJava?.isSome := X.here.top
  have hF : ((T.setVm s.vm).setFrames (.invoking m args :: below)).frames = .invoking m args :: below := State.frames_setFrames _ (State.cur_lt_of_top htop)
  obtain ⟨g₀, hg0⟩ := Option.isSome_iff_exists.mp htop
  obtain ⟨r, hr⟩ := State.topJava?_eq_some.mp hg0
  have hroom := X.room
  have hlo : ((T.setVm s.vm).setFrames (.invoking m args :: below)).localsInUse = s.localsInUse := by
    rw [State.localsInUse_invoking hF (meth := meth) (c := c) X.method X.code, State.localsInUse_invoking X.frames X.method X.code]
  have l1 : e.platform.stackLimits (T.setVm s.vm).me = e.platform.stackLimits s.me := X.limits
  have l2 : (T.setVm s.vm).me.stackBytes = s.me.stackBytes := X.bytes
  have z1 := X.heapSize
  have z2 := X.used
  have nil : T.heap.toList.drop T.heap.size = [] := List.drop_eq_nil_of_le (Nat.le_of_eq Array.length_toList)
  refine ⟨X.admits, X.cas, X.clock, hF, ?_, X.hears, X.method, X.code, X.here, X.tail, X.warmed, by rw [State.stackLimits_setFrames]; rfl, by rw [State.stackBytes_setFrames]; rfl, ?_, Nat.le_refl _, Nat.le_refl _, ?_, ?_, fun a c9 h9 => ⟨c9, h9, rfl, rfl, fun _ _ => rfl⟩⟩
  · simp only [State.hasRoom, Bool.and_eq_true, decide_eq_true_eq] at hroom ⊢
    obtain ⟨⟨⟨⟨h1, h2, h3, h4, h5, h6⟩, h7⟩, h8⟩, h9⟩ := hroom
    rw [X.frames, List.length_cons] at h2 h3
    simp only [hF, hlo, List.length_cons, State.stackLimits_setFrames, State.stackBytes_setFrames, l1, l2]
    have y1 : T.heap.size + a ≤ e.platform.maxCells := by omega
    have y2 : T.slotsUsed + b ≤ e.platform.maxSlots := by omega
    exact ⟨⟨⟨⟨h1, by omega, by omega, h4, h5, h6⟩, y1⟩, y2⟩, X.book⟩
  · obtain ⟨t, ht, -⟩ := State.frames_cons hr
    show T.setVm s.vm = { ((T.setVm s.vm).setFrames (.invoking m args :: below)).setFrames (T.setVm s.vm).frames with heap := T.heap, slotsUsed := T.slotsUsed }
    rw [State.setFrames_setFrames, State.setFrames_self ht]
    rfl
  · show T.slotsUsed = T.slotsUsed + ((T.heap.toList.drop T.heap.size).map (·.slots.size)).sum
    rw [nil]; rfl
  · show ((T.heap.toList.drop T.heap.size).map (·.slots.size)).sum ≤ 0
    rw [nil]; exact Nat.le_refl _
theorem t_isRef {C n d : String} {A : Nat → Prop} (hz : va_Zq C n d A s s.heap) : (Cond.isRef (.static C n d)).before args s = true := by
  rcases hz with ⟨cf, kf, fi, f, a, cell, h1, h2, h3, h4, h5, h6, h7, -⟩ | ⟨t, cf, kf, fi, f, a, cell, h1, h2, h3, h4, h5, h6, h7, -⟩
  · have he : (Term.static C n d).eval args s none [] s = some .null := by simp [Term.eval, State.fieldNamed?, h1, h2, h4, h5, h6, h7]
    simp [Cond.before, Cond.holds, Cond.value, he]
  · have he : (Term.static C n d).eval args s none [] s = some (.ref t) := by simp [Term.eval, State.fieldNamed?, h1, h2, h4, h5, h6, h7]
    simp [Cond.before, Cond.holds, Cond.value, he]
end MXT
/-- the words of a throw that no call takes along -/
def tBad (X : String) : List Cond := [.castable X X, .declares ⟨"java/lang/RuntimeException", "<init>", "(Ljava/lang/String;)V"⟩, .declares ⟨"java/lang/Exception", "<init>", "(Ljava/lang/String;)V"⟩, .declares ⟨"java/lang/Throwable", "<init>", "(Ljava/lang/String;)V"⟩, .laysStatic "java/lang/Throwable" "UNASSIGNED_STACK" "[Ljava/lang/StackTraceElement;", .laysStatic "java/lang/Throwable" "SUPPRESSED_SENTINEL" "Ljava/util/List;", .isRef (.static "java/lang/Throwable" "UNASSIGNED_STACK" "[Ljava/lang/StackTraceElement;"), .isRef (.static "java/lang/Throwable" "SUPPRESSED_SENTINEL" "Ljava/util/List;")]
def tNames : List String := ["java/lang/RuntimeException", "java/lang/Exception"]
theorem t_at1 : ∀ w ∈ Bundle.ownAtoms "NetJoins" 221 (exN 1) tNames, w ∈ tables_1 ∧ goodWord w = true ∨ w ∈ tBad (exN 1) := by decide +kernel
theorem t_at2 : ∀ w ∈ Bundle.ownAtoms "NetJoins" 288 (exN 2) tNames, w ∈ tables_1 ∧ goodWord w = true ∨ w ∈ tBad (exN 2) := by decide +kernel
theorem t_at3 : ∀ w ∈ Bundle.ownAtoms "NetJoins" 114 (exN 3) tNames, w ∈ tables_1 ∧ goodWord w = true ∨ w ∈ tBad (exN 3) := by decide +kernel
