section MXV
variable {p : Program} {l : Launch} {e : Env} {R : Room} {s : State} {m : MethodId} {args : Array Value} {below : List Frame} {meth : Method} {c : Code} {H : Heap} {locs : List Loc} {cells slots : Nat} {Q : State → Prop}
variable {cc : ByteArray} {pc : Nat} {ls : Array Slot} {rest : List Value} {D : va_G} {cs : CS} {Z : Nat → Nat} {h h0 : HS} {px : Nat → HS → Prop} {Qc : Array Value → State → Outcome → State → Prop} {mc ms sz : Nat}
/-- a call of what may throw, from the frame g: it comes back, or throws -/
theorem t_back {y : MethodName} {bytes : ByteArray} {maxL : Nat} {ret : Option FieldType} {rm : Room} {Pc : Array Value → State → Prop} {a : Array Value} {mk : MethodId} {ig : Instr} {T : State} {g : JFrame}
    (hM : TMet l y (Cond.code y bytes maxL ret :: WA) rm D cs Pc Qc px h sz mc ms) (hbl : FrameBlind Pc) (hW : ∀ w ∈ WA, w.before args s = true) (hcode : Cond.code y bytes maxL ret ∈ WA) (hini : Cond.initialized y.cls ∈ WA) (hrc : rm.cells = mc) (hrs : rm.slots = ms) (hRR : rm.frames + 1 ≤ R.frames ∧ 8 + (maxL + 11) + rm.locals ≤ R.locals)
    (X : Stand p l e R s m args below meth c T locs cells slots) (hg : g.method = m) (hsize : g.locals.size = c.maxLocals) (hdg : decode c.code g.pc = .ok (ig, 3)) (hw8 : 2 * g.monitorRoom + (g.stack.map fun v => v.category).sum ≤ 8) (hn : T.methodNamed? y = some mk) (hp : Pc a T) (hf : cells + mc ≤ R.cells ∧ slots + ms ≤ R.slots) :
    (∃ (v : Option Value) (t T' : State) (L : List Loc), Stand p l e R s m args below meth c T' (locs ++ L) (cells + mc) (slots + ms) ∧ (∀ z ∈ L, fA h sz z.base) ∧ T'.heap = t.heap ∧ Qc a (T.calling g mk a) (.returned v) t ∧ Steps p.tables e below (doInvoke e (T.setTop g) [] mk a).1 (T'.setTop { g with pc := g.pc + 3, stack := v.toList ++ g.stack })) ∨
    (∃ (q : Addr) (t T' : State) (L : List Loc) (k : Nat) (u : HS) (ce : Cell), Stand p l e R s m args below meth c T' (locs ++ L) (cells + mc) (slots + ms) ∧ (∀ z ∈ L, fA h sz z.base) ∧ T'.heap = t.heap ∧ px k u ∧ mB D cs h sz u t ∧ va_F (fA h sz) (T.calling g mk a) t ∧ (t.heap[q]? = some ce ∧ ce.vm = .none ∧ s.vm.findClass (exN k) = some ce.cls) ∧ Steps p.tables e below (doInvoke e (T.setTop g) [] mk a).1 ((T'.setTop g).pushFrame (.throwing q))) := by
  have hws : ∀ w ∈ WA, w.before a T = true := fun w hw => word_at X.warmed (wa_good hw) (hW w hw)
  have h1 : (headSpec (Cond.code y bytes maxL ret :: WA) rm).pre.before a T = true := atoms_intro fun w hw => (List.mem_cons.mp hw).elim (fun z => by rw [z]; exact hws _ hcode) (hws w)
  obtain ⟨methY, cY, hmY, hcY, -, hlY, -, -, -, -⟩ := Cond.code_spec hn (hws _ hcode)
  obtain ⟨kY, hkY, -⟩ := className_of_methodNamed hn
  have hiY : kY.init = .initialized := Cond.initialized_spec (findClass_of_methodNamed hn) hkY (hws _ hini)
  have hAt : At T g.method c below := by rw [hg]; exact X.here
  have hlo : 2 * g.monitorRoom + (g.stack.map fun v => v.category).sum + (cY.maxLocals + 11) + (headSpec (Cond.code y bytes maxL ret :: WA) rm).room.locals ≤ R.locals := by
    have := hRR.2
    show _ + _ + rm.locals ≤ R.locals
    rw [hlY]; omega
  have happ := Spec.appliesLoose_calling (S := headSpec (Cond.code y bytes maxL ret :: WA) rm) (x := y) (g := g) hAt hdg hn hkY hiY (X.room_calling (g := g) (R' := (headSpec (Cond.code y bytes maxL ret :: WA) rm).room) hsize hmY hcY hRR.1 hlo (by show cells + rm.cells ≤ _; rw [hrc]; exact hf.1) (by show slots + rm.slots ≤ _; rw [hrs]; exact hf.2)) h1
  obtain ⟨mid, hmid⟩ := hAt.above
  have hfr : (T.setTop g).frames = (.java g :: mid) ++ below := by rw [State.frames_setTop' g hAt.top, hmid]; rfl
  obtain ⟨o, s₂, hsteps, -, hend, hq⟩ := Steps.callFree hM p X.admits X.cas X.clock (acts := []) hfr happ (hbl _ _ g mk hp) trivial
  rw [State.frames_setTop' g hAt.top, X.tail] at hend
  have hq' : tQ D cs Qc px h sz mc ms a (T.calling g mk a) o s₂ := hq
  rcases hq' with ⟨hqc, L, hfe, hL⟩ | ⟨q, rfl, k, u, ce, L, g1, g2, g3, ⟨g4, g5, g6⟩, g7, g8, g9⟩
  · obtain ⟨⟨v, rfl⟩, hW₂, hsm⟩ := id hfe
    obtain ⟨T', X', -, -, e1⟩ := X.outOf hg hdg hend hW₂ hsm
    refine Or.inl ⟨v, s₂, T', L, X', hL, ?_, hqc, ?_⟩
    · rw [e1]; rfl
    · rw [← e1]; exact hsteps
  · obtain ⟨T', X', -, -, e1⟩ := X.outOfThrown hg hend g7 g8
    refine Or.inr ⟨q, s₂, T', L, k, u, ce, X', g9, ?_, g1, g2, g3, ⟨g4, g5, ?_⟩, ?_⟩
    · rw [e1]; rfl
    · have z : T.vm.findClass (exN k) = some ce.cls := g6
      rw [X.warmed.alike.findClass] at z
      exact z
    · rw [← e1]; exact hsteps
/-- what is behind a call, one way or the other -/
theorem t_after {A : Nat → Prop} {H1 : Heap} {L : List Loc} {u : HS} {st t : State} (hR : mR D cs A h s.heap H locs) (hA : ∀ q, s.heap.size ≤ q → A q) (hst : st.heap = H) (hB : mB D cs h H.size u t) (hF : va_F (fA h H.size) st t) (hL : ∀ z ∈ L, fA h H.size z.base) (ht : H1 = t.heap) : mR D cs A u s.heap H1 (locs ++ L) := by
  subst ht
  have hB' : mP D cs (fA h H.size) u t.heap := hB
  refine ⟨hB'.weaken (fun q _ hq => fA_in hR hA q hq), Nat.le_trans hR.2.1 (by rw [← hst]; exact hF.1), fun q h1 h2 => ?_, fun z hz => ?_⟩
  · have e1 := hF.2 q (by rw [hst]; exact Nat.lt_of_lt_of_le h1 hR.2.1) (fun w => h2 (fA_in hR hA q w))
    rw [e1, hst]
    exact hR.2.2.1 q h1 h2
  · rcases List.mem_append.mp hz with w | w
    · exact hR.2.2.2 z w
    · exact fA_in hR hA _ (hL z w)
variable {A : Nat → Prop}
/-- a call of an instance method that answers nothing and may throw, to be caught by nobody here -/
theorem mx_tcallV {y : MethodName} {bytes : ByteArray} {maxL n index nL b ci N : Nat} {own : String} {Tt : u_T} {rm : Room} {post : HS → Prop} {As st0 : List Value} {mc' ms' : Nat} (hx : p.tables.exec = Jvm.exec) (hb : c.code = cc) (hml : c.maxLocals = nL) (hown : s.vm.findClass own = some m.cls) (hW : ∀ w ∈ WA, w.before args s = true) (hK : mK D cs Z s) (hZ : mZ Z (fA h0 s.heap.size) s s.heap) (hlocks : meth.locks = false) (hno : c.exceptionTable.isEmpty = true) (hR : mR D cs (fA h0 s.heap.size) h s.heap H locs) (hA : ∀ q, s.heap.size ≤ q → fA h0 s.heap.size q)
    (hy : vOK y bytes maxL none n) (hlink : Cond.methodLink own index y ∈ WA) (hM : TMet l y (Cond.code y bytes maxL none :: WA) rm D cs (mPc D cs Z h H.size (.ref b :: As)) (va_Qv post (mB D cs h H.size) (fA h H.size)) px h H.size mc' ms') (hrc : rm.cells = mc') (hrs : rm.slots = ms') (hRR : rm.frames + 1 ≤ R.frames ∧ 8 + (maxL + 11) + rm.locals ≤ R.locals)
    (hc : vcl[ci]? = some (y.cls, Tt, N)) (htb : gT h b = 16 + ci) (hn : As.length = n) (hsize : ls.size = nL) (hst0 : st0 = As.reverse ++ .ref b :: rest) (hw8 : (rest.map fun v => v.category).sum ≤ 8) (hdg : decode cc pc = .ok (.invokevirtual index, 3)) (hf : cells + mc' ≤ R.cells ∧ slots + ms' ≤ R.slots) (hmc : cells + mc' ≤ mc ∧ slots + ms' ≤ ms)
    (kk : ∀ (u : HS) (H1 : Heap) (locs1 : List Loc), post u → mR D cs (fA h0 s.heap.size) u s.heap H1 locs1 → W p l e R s m args below meth c H1 locs1 (cells + mc') (slots + ms') (tMQ D cs below Qc px h0 s.heap.size args s mc ms) (F0 m (pc + 3) ls rest)) : W p l e R s m args below meth c H locs cells slots (tMQ D cs below Qc px h0 s.heap.size args s mc ms) (F0 m pc ls st0) := by
  subst hst0
  intro T hT X
  obtain ⟨-, ⟨cellB, hcB, hoB, hclB⟩, hPre⟩ := mx_preV (As := As) hK hZ hA hR hc htb
  obtain ⟨mk, methM, hnamed, hmethM, hstM, habM⟩ := Cond.instanceMethod_spec (hW _ hy.2.1)
  obtain ⟨methM', cM, hmethM', -, -, -, -, -, -, hsigM⟩ := Cond.code_spec hnamed (hW _ hy.1)
  cases hmethM.symm.trans hmethM'
  obtain ⟨c2, r2, m2, q1, q2, q3, q4, kP, hkP, hkPi⟩ := Cond.selects_spec (hW _ hy.2.2.1)
  cases hclB.symm.trans q1
  have hyn := hy.2.2.2.2
  cases (State.methodFound?_of_named hnamed ⟨hyn.1, hyn.2.1⟩).symm.trans q2
  cases hnamed.symm.trans q3
  have hselP : selectMethod e.platform s.vm cellB.cls mk = .method mk := by rw [Launch.admits_selectMethod X.admits]; exact q4
  have hlen : ∀ sig, parseMethodDescriptor y.desc = some sig → As.length = sig.parameters.length := fun sig hs => by
    have := hyn.2.2
    rw [hs] at this
    rw [hn]; exact (Option.some.inj this).symm
  obtain ⟨vm₁, X₁, hstep₁⟩ := X.invokevirtual hx hown (hW _ hlink) hnamed hmethM hstM hkP hkPi ⟨hyn.1, hyn.2.1⟩ (a := b) (cell := cellB) (by rw [hT]; exact hcB)
    (fun z hz => by rw [hz] at hoB; cases hoB) hselP hmethM habM hkP hkPi (g := F0 m pc ls (As.reverse ++ .ref b :: rest)) rfl (argsL := As) (rest := rest) (hlen _ hsigM) rfl (by rw [hb]; exact hdg)
  have hPc := hPre (T.setVm vm₁) hT X₁.warmed
  rcases t_back (a := (Value.ref b :: As).toArray) (g := F0 m pc ls rest) (ig := .invokevirtual index) hM mx_blind hW hy.1 hy.2.2.2.1 hrc hrs hRR X₁ rfl (hsize.trans hml.symm) (by rw [hb]; exact hdg) (lv_room hw8) (X₁.named hnamed) hPc hf with ⟨v, t, T', L, X', hL, e1, ⟨⟨u, e2, hw, hB⟩, hF⟩, hsteps⟩ | ⟨q, t, T', L, k, u, ce, X', hL, e1, hw, hB, hF, ⟨g4, g5, g6⟩, hsteps⟩
  · cases e2
    obtain ⟨t2, a1, b1⟩ := kk u T'.heap (locs ++ L) hw (t_after hR hA hT hB hF hL e1) T' rfl X'
    refine ⟨t2, hstep₁ _ fun acts => ?_, b1⟩
    rw [doInvoke_state]
    exact hsteps.trans a1
  · have hR1 := t_after hR hA hT hB hF hL e1
    obtain ⟨t2, a1, b1⟩ := t_out (pc := pc) (ls := ls) (rest := rest) (below := below) (p := p) (l := l) (e := e) (R := R) (args := args) (Qc := Qc) (cells := cells + mc') (slots := slots + ms') (H := T'.heap) hno hlocks (by rw [e1]; exact g4) g5 g6 hR1 hw hmc.1 hmc.2 T' rfl X'
    refine ⟨t2, hstep₁ _ fun acts => ?_, b1⟩
    rw [doInvoke_state]
    exact hsteps.trans a1
/-- the same of a static method -/
theorem mx_tcallS {y : MethodName} {bytes : ByteArray} {maxL n index nL : Nat} {own : String} {rm : Room} {post : HS → Prop} {As st0 : List Value} {mc' ms' : Nat} (hx : p.tables.exec = Jvm.exec) (hb : c.code = cc) (hml : c.maxLocals = nL) (hown : s.vm.findClass own = some m.cls) (hW : ∀ w ∈ WA, w.before args s = true) (hK : mK D cs Z s) (hZ : mZ Z (fA h0 s.heap.size) s s.heap) (hlocks : meth.locks = false) (hno : c.exceptionTable.isEmpty = true) (hR : mR D cs (fA h0 s.heap.size) h s.heap H locs) (hA : ∀ q, s.heap.size ≤ q → fA h0 s.heap.size q)
    (hy : sOK y bytes maxL none n) (hlink : Cond.methodLink own index y ∈ WA) (hM : TMet l y (Cond.code y bytes maxL none :: WA) rm D cs (mPc D cs Z h H.size As) (va_Qv post (mB D cs h H.size) (fA h H.size)) px h H.size mc' ms') (hrc : rm.cells = mc') (hrs : rm.slots = ms') (hRR : rm.frames + 1 ≤ R.frames ∧ 8 + (maxL + 11) + rm.locals ≤ R.locals)
    (hn : As.length = n) (hsize : ls.size = nL) (hst0 : st0 = As.reverse ++ rest) (hw8 : (rest.map fun v => v.category).sum ≤ 8) (hdg : decode cc pc = .ok (.invokestatic index, 3)) (hf : cells + mc' ≤ R.cells ∧ slots + ms' ≤ R.slots) (hmc : cells + mc' ≤ mc ∧ slots + ms' ≤ ms)
    (kk : ∀ (u : HS) (H1 : Heap) (locs1 : List Loc), post u → mR D cs (fA h0 s.heap.size) u s.heap H1 locs1 → W p l e R s m args below meth c H1 locs1 (cells + mc') (slots + ms') (tMQ D cs below Qc px h0 s.heap.size args s mc ms) (F0 m (pc + 3) ls rest)) : W p l e R s m args below meth c H locs cells slots (tMQ D cs below Qc px h0 s.heap.size args s mc ms) (F0 m pc ls st0) := by
  subst hst0
  intro T hT X
  have hPre := mx_pre (As := As) hK hZ hA hR
  obtain ⟨mk, hnamed⟩ := Cond.code_named (hW _ hy.1)
  obtain ⟨methM, cM, hmethM, -, -, -, -, -, -, hsigM⟩ := Cond.code_spec hnamed (hW _ hy.1)
  have hstatic : methM.isStatic = true := Cond.static_spec hnamed hmethM (hW _ hy.2.1)
  obtain ⟨kP, hkP, -⟩ := className_of_methodNamed hnamed
  have hinitP : kP.init = .initialized := Cond.initialized_spec (findClass_of_methodNamed hnamed) hkP (hW _ hy.2.2.1)
  have hyn := hy.2.2.2
  have hlen : ∀ sig, parseMethodDescriptor y.desc = some sig → As.length = sig.parameters.length := fun sig hs => by
    have := hyn.2.2
    rw [hs] at this
    rw [hn]; exact (Option.some.inj this).symm
  obtain ⟨vm₁, X₁, hstep₁⟩ := X.invokestatic hx hown (hW _ hlink) hnamed hmethM hstatic hkP hinitP ⟨hyn.1, hyn.2.1⟩ (g := F0 m pc ls (As.reverse ++ rest)) rfl (argsL := As) (rest := rest) (hlen _ hsigM) rfl (by rw [hb]; exact hdg)
  have hPc := hPre (T.setVm vm₁) hT X₁.warmed
  rcases t_back (a := As.toArray) (g := F0 m pc ls rest) (ig := .invokestatic index) hM mx_blind hW hy.1 hy.2.2.1 hrc hrs hRR X₁ rfl (hsize.trans hml.symm) (by rw [hb]; exact hdg) (lv_room hw8) (X₁.named hnamed) hPc hf with ⟨v, t, T', L, X', hL, e1, ⟨⟨u, e2, hw, hB⟩, hF⟩, hsteps⟩ | ⟨q, t, T', L, k, u, ce, X', hL, e1, hw, hB, hF, ⟨g4, g5, g6⟩, hsteps⟩
  · cases e2
    obtain ⟨t2, a1, b1⟩ := kk u T'.heap (locs ++ L) hw (t_after hR hA hT hB hF hL e1) T' rfl X'
    refine ⟨t2, hstep₁ _ fun acts => ?_, b1⟩
    rw [doInvoke_state]
    exact hsteps.trans a1
  · have hR1 := t_after hR hA hT hB hF hL e1
    obtain ⟨t2, a1, b1⟩ := t_out (pc := pc) (ls := ls) (rest := rest) (below := below) (p := p) (l := l) (e := e) (R := R) (args := args) (Qc := Qc) (cells := cells + mc') (slots := slots + ms') (H := T'.heap) hno hlocks (by rw [e1]; exact g4) g5 g6 hR1 hw hmc.1 hmc.2 T' rfl X'
    refine ⟨t2, hstep₁ _ fun acts => ?_, b1⟩
    rw [doInvoke_state]
    exact hsteps.trans a1
end MXV
/-- what a walk of a method that may throw stands on -/
def tC (D : va_G) (cs : CS) (Z : Nat → Nat) (h0 : HS) (y : MethodName) (cc : ByteArray) (maxL : Nat) (ret : Option FieldType) (l : Launch) (p : Program) (s : State) (m : MethodId) (args : Array Value) (meth : Method) (c : Code) : Prop :=
  mC D cs Z h0 y cc maxL ret p s m args meth c ∧ c.exceptionTable.isEmpty = true ∧ l.stackTraces = false
theorem mx_tmet {l : Launch} {y : MethodName} {cc : ByteArray} {maxL : Nat} {ret : Option FieldType} {rm : Room} {D : va_G} {cs : CS} {Z : Nat → Nat} {h : HS} {sz mc ms : Nat} {As : List Value} {px : Nat → HS → Prop} (Qf : Nat → Array Value → State → Outcome → State → Prop) (hy : plainName y.cls = true) (hlT : l.stackTraces = false) (hAs : (lg_sl As).length ≤ maxL)
    (body : ∀ (p : Program) (e : Env) (s : State) (m : MethodId) (args : Array Value) (below : List Frame) (meth : Method) (c : Code), tC D cs Z h y cc maxL ret l p s m args meth c → mR D cs (fA h s.heap.size) h s.heap s.heap [] → ∀ ls : Array Slot, lv_has ls maxL (lv_args 0 As) → W p l e rm s m args below meth c s.heap [] 0 0 (tMQ D cs below (Qf s.heap.size) px h s.heap.size args s mc ms) (F0 m 0 ls [])) :
    TMet l y (Cond.code y cc maxL ret :: WA) rm D cs (mPc D cs Z h sz As) (Qf sz) px h sz mc ms := by
  refine MetFree.of_bodyS (code := cc) (maxLocals := maxL) (ret := ret) hy ?_ ?_
  · intro args s m hh hn
    obtain ⟨meth, c, h1, h2, h3, h4, h5, h6, -, -⟩ := Cond.code_spec hn (atoms_spec (ws := Cond.code y cc maxL ret :: WA) hh _ List.mem_cons_self)
    exact ⟨meth, c, h1, h2, h3, h4, h5, h6⟩
  · intro p e s m args below meth c s₁ B hml hv _
    obtain ⟨rfl, hsz, hP, hK, hZ⟩ := hv
    subst hsz
    have hts := atoms_spec (ws := Cond.code y cc maxL ret :: WA) B.pre
    have hl := lv_entry As (n := maxL) hAs
    have hh0 : s₁.heap = s.heap := by rw [B.state]; rfl
    have K := body p e s m As.toArray below meth c ⟨⟨B.exec, B.bytes, B.returns, hml, findClass_of_methodNamed B.named, fun w hw => hts w (List.mem_cons_of_mem _ hw), B.notSynchronized, (name_of_methodNamed B.named B.method).1, hK, hZ⟩, BodyLoose.noHandlers B (hts _ List.mem_cons_self), hlT⟩ ⟨hP.weaken (fun q hq _ => Or.inl hq), va_S.rf⟩ _ hl
    rw [← lg_entry_eq] at K
    obtain ⟨t, a1, o, b1, b2, b3⟩ := K s₁ hh0 (Stand.of_body B)
    exact ⟨t, o, a1, b1, b2, b3⟩
