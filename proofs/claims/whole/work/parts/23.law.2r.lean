/-! what the law's walk stands on -/
def lC (l : Launch) (D : va_G) (cs : CS) (Z : Nat → Nat) (h0 : HS) (p : Program) (s : State) (m : MethodId) (meth : Method) (c : Code) (v0 L : Nat) (xs : Nat → Int32) : Prop :=
  p.tables.exec = Jvm.exec ∧ c.code = code ∧ meth.sig.returnType = ret ∧ c.maxLocals = 7 ∧ s.vm.findClass "NetJoinsLaw" = some m.cls ∧ (∀ w ∈ WA, w.before #[Value.ref v0] s = true) ∧ meth.locks = false ∧ mK D cs Z s ∧ mZ Z (fA h0 s.heap.size) s s.heap ∧ va_X v0 L xs s s.heap ∧ v0 < s.heap.size ∧ L ≤ 5120 ∧ l.stackTraces = false ∧ ∀ q, gT h0 q = 0
section LAWA
variable {p : Program} {l : Launch} {e : Env} {R : Room} {s : State} {m : MethodId} {args : Array Value} {below : List Frame} {meth : Method} {c : Code} {H : Heap} {locs : List Loc} {cells slots : Nat} {Q : State → Prop}
variable {cc : ByteArray} {pc : Nat} {ls : Array Slot} {rest : List Value} {D : va_G} {cs : CS} {h h0 : HS} {b L : Nat} {xs : Nat → Int32}
theorem l_out (hbl : b < s.heap.size) (hh0 : ∀ q, gT h0 q = 0) : ¬ fA h0 s.heap.size b := by
  intro z
  rcases z with z | z
  · exact z (hh0 b)
  · omega
theorem mx_sld (hx : p.tables.exec = Jvm.exec) (hb : c.code = cc) (hX : va_X b L xs s s.heap) (hbl : b < s.heap.size) (hh0 : ∀ q, gT h0 q = 0) (hR : mR D cs (fA h0 s.heap.size) h s.heap H locs) {i v : Int32} (hin : vp_in i L ∧ xs i.toNatClampNeg = v) (hdg : decode cc pc = .ok (.iaload, 1))
    (kk : W p l e R s m args below meth c H locs cells slots Q (F0 m (pc + 1) ls (.int v :: rest))) : W p l e R s m args below meth c H locs cells slots Q (F0 m pc ls (.int i :: va_rf (some b) :: rest)) := by
  obtain ⟨h1, rfl⟩ := hin
  exact va_sld hx hb hX hbl (l_out hbl hh0) hR.2 h1 hdg kk
theorem mx_slen (hx : p.tables.exec = Jvm.exec) (hb : c.code = cc) (hX : va_X b L xs s s.heap) (hbl : b < s.heap.size) (hh0 : ∀ q, gT h0 q = 0) (hR : mR D cs (fA h0 s.heap.size) h s.heap H locs) (hdg : decode cc pc = .ok (.arraylength, 1))
    (kk : W p l e R s m args below meth c H locs cells slots Q (F0 m (pc + 1) ls (.int (Int32.ofNat L) :: rest))) : W p l e R s m args below meth c H locs cells slots Q (F0 m pc ls (va_rf (some b) :: rest)) :=
  va_slen hx hb hX hbl (l_out hbl hh0) hR.2 hdg kk
end LAWA
def lw_Q (_ : Array Value) (s : State) (o : Outcome) (t : State) : Prop := o = .returned (some (.int 1)) ∧ Framed s o t [] room_1.cells room_1.slots
def lw_Z (below : List Frame) (a : Array Value) (s : State) : State → Prop := fun t => ∃ o, t.status = .running ∧ Ended t below o ∧ lw_Q a s o t

