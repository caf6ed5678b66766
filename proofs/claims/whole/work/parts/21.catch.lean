/-! WHAT IS CAUGHT. A table of handlers as its quadruples; each class that a row names may still be unlinked -/
section CTA
variable {e : Env} {s : State} {f : JFrame} {a : Addr} {cell : Cell}
/-- the search over the rows es ends at tgt, whatever the tables' warmth -/
def t_fd (e : Env) (s : State) (f : JFrame) (a : Addr) (cell : Cell) (es : List ExceptionTableEntry) (tgt : Nat) : Prop :=
  ∀ S : State, s.WarmedH S.vm → S.heap[a]? = some cell → ∃ vm', s.WarmedH vm' ∧ ∀ (Q : Handler → Pre) (E : CtlPost) (d : Bool) (acts : List Action), wp (findHandler.go f a es) Q E e d acts S ↔ Q (.found tgt) d acts (S.setVm vm')
theorem t_row {x : ExceptionTableEntry} {es : List ExceptionTableEntry} {cT : ClassId} {tgt : Nat} (hx : covers x f.pc = true) (h0 : x.catchType ≠ 0) (hl : s.vm.ClassLinks e.platform f.method.cls x.catchType cT) (hobj : ∀ k, cell.vm ≠ .statics k) (hk : ∃ k, s.vm.classes[cell.cls]? = some k)
    (hor : (s.vm.assignable cell.cls cT = true ∧ tgt = x.handlerPc) ∨ (s.vm.assignable cell.cls cT = false ∧ t_fd e s f a cell es tgt)) : t_fd e s f a cell (x :: es) tgt := by
  intro S hW hc
  obtain ⟨dk, _, _, kt, hd, _, _, _, _, hkt, _, hopen⟩ := hl.here
  have hW' : s.WarmedH (S.vm.noted f.method.cls x.catchType (.cls cT)) := hW.noted hd hopen (State.rightAt_cls hl)
  obtain ⟨ka, hka⟩ := hk
  obtain ⟨k1, hk1, -⟩ := hW'.alike.2.2 _ _ hka
  obtain ⟨k2, hk2, -⟩ := hW'.alike.2.2 _ _ hkt
  obtain ⟨r1, r2⟩ := (resolveClass_links e.toSetting (hW.classLinks hl)).op (op := VmOp.resolveClass f.method.cls x.catchType) rfl
  simp only [covers] at hx
  rcases hor with ⟨has, rfl⟩ | ⟨has, hr⟩
  · have has' : (S.vm.noted f.method.cls x.catchType (.cls cT)).assignable cell.cls cT = true := by rw [hW'.alike.assignable]; exact has
    refine ⟨_, hW', fun Q E d acts => ?_⟩
    simp [findHandler.go, hx, h0, r1, r2, hc, hobj, hk1, hk2, has', VmOp.dirties, VmOp.acts]
  · have has' : (S.vm.noted f.method.cls x.catchType (.cls cT)).assignable cell.cls cT = false := by rw [hW'.alike.assignable]; exact has
    obtain ⟨vm', hV, hq⟩ := hr (S.setVm (S.vm.noted f.method.cls x.catchType (.cls cT))) hW' hc
    refine ⟨vm', hV, fun Q E d acts => ?_⟩
    have hq' : wp (findHandler.go f a es) Q E e d acts (S.setVm (S.vm.noted f.method.cls x.catchType (.cls cT))) ↔ Q (.found tgt) d acts (S.setVm vm') := hq Q E d acts
    rw [← hq']
    simp [findHandler.go, hx, h0, r1, r2, hc, hobj, hk1, hk2, has', VmOp.dirties, VmOp.acts]
end CTA
/-- by the words: the row of the table at which an exception of kind k, thrown at pc, is caught -/
def t_q (own : String) (pc k : Nat) : List (Nat × Nat × Nat × Nat) → Nat → Prop
  | [], _ => False
  | x :: r, tgt => (x.1 ≤ pc ∧ pc < x.2.1 ∧ x.2.2.2 ≠ 0) ∧ ((Cond.classLink own x.2.2.2 (exN k) ∈ WA ∧ (exN k, exN k) ∈ castP ∧ tgt = x.2.2.1) ∨ (∃ j, Cond.classLink own x.2.2.2 (exN j) ∈ WA ∧ (exN k, exN j) ∈ ncP ∧ t_q own pc k r tgt))
section CTB
variable {p : Program} {l : Launch} {e : Env} {R : Room} {s : State} {m : MethodId} {args : Array Value} {below : List Frame} {meth : Method} {c : Code} {H : Heap} {locs : List Loc} {cells slots : Nat} {Q : State → Prop}
variable {cc : ByteArray} {pc : Nat} {ls : Array Slot} {rest : List Value} {D : va_G} {cs : CS} {Z : Nat → Nat} {A : Nat → Prop} {h h0 : HS}
theorem t_q_fd {own : String} {k tgt : Nat} {a : Addr} {ce : Cell} (hpl : e.platform.magicAccessors = ({} : Platform).magicAccessors) (hW : ∀ w ∈ WA, w.before args s = true) (hK : mK D cs Z s) (hown : s.vm.findClass own = some m.cls) (hv : ce.vm = .none) (hcl : s.vm.findClass (exN k) = some ce.cls) {g : JFrame} (hg : g.method = m) :
    ∀ (hh : List (Nat × Nat × Nat × Nat)) (es : List ExceptionTableEntry), es.map (fun h => (h.startPc, h.endPc, h.handlerPc, h.catchType)) = hh → t_q own g.pc k hh tgt → t_fd e s g a ce es tgt := by
  intro hh
  induction hh with
  | nil => intro es _ hq; exact hq.elim
  | cons y r ih =>
    intro es he hq
    cases es with
    | nil => cases he
    | cons x t =>
      simp only [List.map_cons, List.cons.injEq] at he
      obtain ⟨e1, e2⟩ := he
      obtain ⟨⟨q1, q2, q3⟩, q4⟩ := hq
      subst e1
      have hx : covers x g.pc = true := by simp only [covers, Bool.and_eq_true, decide_eq_true_eq]; exact ⟨q1, q2⟩
      have hobj : ∀ k, ce.vm ≠ .statics k := fun k z => by rw [hv] at z; cases z
      rcases q4 with ⟨w1, w2, rfl⟩ | ⟨j, w1, w2, w3⟩
      · obtain ⟨c', hc', hl⟩ := Cond.classLink_spec hown (hW _ w1) e.platform hpl
        cases hcl.symm.trans hc'
        have hcs : (Cond.castable (exN k) (exN k)).before args s = true := va_Nw.use rfl (hK.2.2.2.2.2.1 _ w2)
        obtain ⟨c3, t3, g1, g2, g3⟩ := Cond.castable_spec hcs
        cases hcl.symm.trans g1
        cases hcl.symm.trans g2
        exact t_row hx q3 (by rw [hg]; exact hl) hobj (Vm.classAt_of_findClass hcl) (Or.inl ⟨g3, rfl⟩)
      · obtain ⟨c', hc', hl⟩ := Cond.classLink_spec hown (hW _ w1) e.platform hpl
        obtain ⟨c3, t3, g1, g2, g3⟩ := hK.2.2.2.2.2.2.1 _ w2
        have g1 : s.vm.findClass (exN k) = some c3 := g1
        have g2 : s.vm.findClass (exN j) = some t3 := g2
        cases hcl.symm.trans g1
        cases hc'.symm.trans g2
        exact t_row hx q3 (by rw [hg]; exact hl) hobj (Vm.classAt_of_findClass hcl) (Or.inr ⟨g3, ih t e2 w3⟩)
/-- from the note over the frame g to the handler -/
theorem t_caught {T : State} (X : Stand p l e R s m args below meth c T locs cells slots) {a : Addr} {ce : Cell} {g : JFrame} {tgt : Nat} (hg : g.method = m) (hcell : T.heap[a]? = some ce) (hf : t_fd e s g a ce c.exceptionTable.toList tgt) :
    ∃ vm', Stand p l e R s m args below meth c (T.setVm vm') locs cells slots ∧ ∀ target, Steps p.tables e below ((T.setVm vm').setTop { g with pc := tgt, stack := [.ref a] }) target → Steps p.tables e below ((T.setTop g).pushFrame (.throwing a)) target := by
  obtain ⟨vm', hV, hq⟩ := hf ((T.setTop g).pushFrame (.throwing a)) X.warmed hcell
  refine ⟨vm', X.noted hV, fun target hrest => ?_⟩
  have hAt : At T g.method c below := by rw [hg]; exact X.here
  obtain ⟨hgo, hwi⟩ := hAt.throwing a
  have hm : ((T.setTop g).pushFrame (.throwing a)).vm.method? g.method = some meth := by rw [hg]; exact X.method'
  have key : ∀ r : List Frame, (stepThrowing e ((T.setTop g).pushFrame (.throwing a)) a (.java g :: r)).1 = (((T.setTop g).pushFrame (.throwing a)).setVm vm').setFrames (.java { g with pc := tgt, stack := [.ref a] } :: r) := by
    intro r
    simp only [stepThrowing, searchFrame, vmDo]
    generalize hr : Sem.go _ e false [] ((T.setTop g).pushFrame (.throwing a)) = res
    obtain ⟨as, rfl, ha⟩ := Sem.eq_ok_of hr (a := Handler.found tgt) (s' := ((T.setTop g).pushFrame (.throwing a)).setVm vm') (acts' := []) (by
      have h9 := fun (Q : Handler → Pre) (E : CtlPost) (d : Bool) (acts : List Action) => (W.findHandler_eq (Q := Q) (E := E) (e := e) (d := d) (acts := acts) (a := a) hm X.code).trans (hq Q E d acts)
      simp [h9])
    rfl
  refine Steps.head hgo hwi ?_
  rw [stepThread_throwing (frames_entered hAt.top _), key]
  obtain ⟨g₀, hg0⟩ := Option.isSome_iff_exists.mp hAt.top
  obtain ⟨r, hr⟩ := State.topJava?_eq_some.mp hg0
  have hr' : (T.setVm vm').frames = .java g₀ :: r := hr
  rw [State.setTop_of_frames _ hr'] at hrest
  have e1 : ∀ (u : State) (F G : List Frame), ((u.setFrames F).setVm vm').setFrames G = (u.setVm vm').setFrames G := fun u F G => by
    have h1 : (u.setFrames F).setVm vm' = (u.setVm vm').setFrames F := rfl
    rw [h1, State.setFrames_setFrames]
  rw [hr, List.tail_cons, State.pushFrame, e1, State.setTop_of_frames _ hr, e1]
  exact hrest
/-- a call of an instance method that answers an int and may throw what is caught here -/
theorem mx_tcatch {y : MethodName} {bytes : ByteArray} {maxL n index nL b ci N : Nat} {own : String} {Tt : u_T} {rm : Room} {post : Int32 → HS → Prop} {px : Nat → HS → Prop} {As st0 : List Value} {mc' ms' : Nat} {rt : FieldType} {hh : List (Nat × Nat × Nat × Nat)} (hx : p.tables.exec = Jvm.exec) (hb : c.code = cc) (hml : c.maxLocals = nL) (hown : s.vm.findClass own = some m.cls) (hW : ∀ w ∈ WA, w.before args s = true) (hK : mK D cs Z s) (hZ : mZ Z (fA h0 s.heap.size) s s.heap) (hhh : c.exceptionTable.toList.map (fun h => (h.startPc, h.endPc, h.handlerPc, h.catchType)) = hh) (hR : mR D cs (fA h0 s.heap.size) h s.heap H locs) (hA : ∀ q, s.heap.size ≤ q → fA h0 s.heap.size q)
    (hy : vOK y bytes maxL (some rt) n) (hlink : Cond.methodLink own index y ∈ WA) (hM : TMet l y (Cond.code y bytes maxL (some rt) :: WA) rm D cs (mPc D cs Z h H.size (.ref b :: As)) (va_Qi post (mB D cs h H.size) (fA h H.size)) px h H.size mc' ms') (hrc : rm.cells = mc') (hrs : rm.slots = ms') (hRR : rm.frames + 1 ≤ R.frames ∧ 8 + (maxL + 11) + rm.locals ≤ R.locals)
    (hc : vcl[ci]? = some (y.cls, Tt, N)) (htb : gT h b = 16 + ci) (hn : As.length = n) (hsize : ls.size = nL) (hst0 : st0 = As.reverse ++ .ref b :: rest) (hw8 : (rest.map fun v => v.category).sum ≤ 8) (hdg : decode cc pc = .ok (.invokevirtual index, 3)) (hf : cells + mc' ≤ R.cells ∧ slots + ms' ≤ R.slots)
    (kx : ∀ (k : Nat) (u : HS) (H1 : Heap) (locs1 : List Loc) (q : Nat), px k u → mR D cs (fA h0 s.heap.size) u s.heap H1 locs1 → ∃ tgt, t_q own pc k hh tgt ∧ W p l e R s m args below meth c H1 locs1 (cells + mc') (slots + ms') Q (F0 m tgt ls [va_rf (some q)]))
    (kk : ∀ (v : Int32) (u : HS) (H1 : Heap) (locs1 : List Loc), post v u → mR D cs (fA h0 s.heap.size) u s.heap H1 locs1 → W p l e R s m args below meth c H1 locs1 (cells + mc') (slots + ms') Q (F0 m (pc + 3) ls (.int v :: rest))) : W p l e R s m args below meth c H locs cells slots Q (F0 m pc ls st0) := by
  subst hst0
  intro T hT X
  have hpl : e.platform.magicAccessors = ({} : Platform).magicAccessors := by rw [X.admits.platform]
  obtain ⟨-, ⟨cellB, hcB, hoB, hclB⟩, hPre⟩ := mx_preV (As := As) hK hZ hA hR hc htb
  obtain ⟨mk, methM, hnamed, hmethM, hstM, habM⟩ := Cond.instanceMethod_spec (hW _ hy.2.1)
  obtain ⟨methM', cM, hmethM', -, -, -, -, -, -, hsigM⟩ := Cond.code_spec hnamed (hW _ hy.1)
  cases hmethM.symm.trans hmethM'
  obtain ⟨c2, r2, m2, q1, q2, q3, q4, kP, hkP, hkPi⟩ := Cond.selects_spec (hW _ hy.2.2.1)
  cases hclB.symm.trans q1
  have hyn := hy.2.2.2.2
  cases (State.methodFound?_of_named hnamed ⟨hyn.1, hyn.2.1⟩).symm.trans q2
  cases hnamed.symm.trans q3
  have hselP : selectMethod e.platform s.vm cellB.cls mk = .method mk := by rw [Launch.admits_selectMethod X.admits]; exact q4
  have hlen : ∀ sig, parseMethodDescriptor y.desc = some sig → As.length = sig.parameters.length := fun sig hs => by
    have := hyn.2.2
    rw [hs] at this
    rw [hn]; exact (Option.some.inj this).symm
  obtain ⟨vm₁, X₁, hstep₁⟩ := X.invokevirtual hx hown (hW _ hlink) hnamed hmethM hstM hkP hkPi ⟨hyn.1, hyn.2.1⟩ (a := b) (cell := cellB) (by rw [hT]; exact hcB)
    (fun z hz => by rw [hz] at hoB; cases hoB) hselP hmethM habM hkP hkPi (g := F0 m pc ls (As.reverse ++ .ref b :: rest)) rfl (argsL := As) (rest := rest) (hlen _ hsigM) rfl (by rw [hb]; exact hdg)
  have hPc := hPre (T.setVm vm₁) hT X₁.warmed
  rcases t_back (a := (Value.ref b :: As).toArray) (g := F0 m pc ls rest) (ig := .invokevirtual index) hM mx_blind hW hy.1 hy.2.2.2.1 hrc hrs hRR X₁ rfl (hsize.trans hml.symm) (by rw [hb]; exact hdg) (lv_room hw8) (X₁.named hnamed) hPc hf with ⟨v, t, T', L, X', hL, e1, ⟨⟨r, u, e2, hw, hB⟩, hF⟩, hsteps⟩ | ⟨q, t, T', L, k, u, ce, X', hL, e1, hw, hB, hF, ⟨g4, g5, g6⟩, hsteps⟩
  · cases e2
    obtain ⟨t2, a1, b1⟩ := kk r u T'.heap (locs ++ L) hw (t_after hR hA hT hB hF hL e1) T' rfl X'
    refine ⟨t2, hstep₁ _ fun acts => ?_, b1⟩
    rw [doInvoke_state]
    exact hsteps.trans a1
  · have hR1 := t_after hR hA hT hB hF hL e1
    obtain ⟨tgt, hq, hWk⟩ := kx k u T'.heap (locs ++ L) q hw hR1
    obtain ⟨vm', X2, st2⟩ := t_caught X' (g := F0 m pc ls rest) (a := q) (ce := ce) (tgt := tgt) rfl (by rw [e1]; exact g4) (t_q_fd hpl hW hK hown g5 g6 rfl hh _ hhh hq)
    obtain ⟨t2, a1, b1⟩ := hWk (T'.setVm vm') rfl X2
    refine ⟨t2, hstep₁ _ fun acts => ?_, b1⟩
    rw [doInvoke_state]
    exact hsteps.trans (st2 _ a1)
/-- the word of a static method with handlers -/
def wOK (y : MethodName) (bytes : ByteArray) (maxL : Nat) (ret : Option FieldType) (hh : List (Nat × Nat × Nat × Nat)) (n : Nat) : Prop := Cond.codeWith y bytes maxL ret hh ∈ WA ∧ Cond.static y ∈ WA ∧ Cond.initialized y.cls ∈ WA ∧ (y.cls ≠ "java/lang/invoke/MethodHandle" ∧ y.cls ≠ "java/lang/invoke/VarHandle" ∧ (parseMethodDescriptor y.desc).map (fun d => d.parameters.length) = some n)
/-- a call of a static method with handlers -/
theorem mx_runW {y : MethodName} {bytes : ByteArray} {maxL nL mc ms n index : Nat} {ret : Option FieldType} {hh : List (Nat × Nat × Nat × Nat)} {rm : Room} {Pc : Array Value → State → Prop} {Qc : Array Value → State → Outcome → State → Prop} {free : Addr → Prop} {own : String} {As : List Value} {g : JFrame}
    (hx : p.tables.exec = Jvm.exec) (hb : c.code = cc) (hml : c.maxLocals = nL) (hown : s.vm.findClass own = some m.cls) (hW : ∀ w ∈ WA, w.before args s = true) (hM : Met l y (Cond.codeWith y bytes maxL ret hh :: WA) rm Pc Qc mc ms free) (hy : wOK y bytes maxL ret hh n) (hlink : Cond.methodLink own index y ∈ WA) (hrc : rm.cells = mc) (hrs : rm.slots = ms) (hRR : rm.frames + 1 ≤ R.frames ∧ 8 + (maxL + 11) + rm.locals ≤ R.locals) (hp : PreS s H Pc As)
    (hg : g.method = m) (hn : As.length = n) (hsize : g.locals.size = nL) (hstack : g.stack = As.reverse ++ rest) (hw8 : 2 * g.monitorRoom + (rest.map fun v => v.category).sum ≤ 8) (hdg : decode cc g.pc = .ok (.invokestatic index, 3)) (hf : cells + mc ≤ R.cells ∧ slots + ms ≤ R.slots) :
    va_Run p l e R s m args below meth c H locs cells slots mc ms g rest (Qc As.toArray) (free) := by
  have hws : ∀ w ∈ Cond.codeWith y bytes maxL ret hh :: WA, ∀ (a' : Array Value) (U : State), s.WarmedH U.vm → w.before a' U = true := by
    intro w hw a' U hV
    have hm : w ∈ WA := by
      rcases List.mem_cons.mp hw with z | z
      · rw [z]; exact hy.1
      · exact z
    exact word_at hV (wa_good hm) (hW w hm)
  have hK : Back l R p e below s args y 3 8 (PreOf R mc ms Pc) (PostOf Qc mc ms free) := va_backW (hh := hh) (bytes := bytes) (maxL := maxL) (ret := ret) hM hp.1 hrc hrs hRR.1 hRR.2 hws List.mem_cons_self (fun a' U hV => word_at hV (wa_good hy.2.2.1) (hW _ hy.2.2.1))
  obtain ⟨mk, methM, cM, hnamed, hmethM, -, -, -, -, -, -, hsigM⟩ := Cond.codeWith_spec (hW _ hy.1)
  have hstatic : methM.isStatic = true := Cond.static_spec hnamed hmethM (hW _ hy.2.1)
  obtain ⟨kP, hkP, -⟩ := className_of_methodNamed hnamed
  have hinitP : kP.init = .initialized := Cond.initialized_spec (findClass_of_methodNamed hnamed) hkP (hW _ hy.2.2.1)
  have hyn := hy.2.2.2
  have hlen : ∀ sig, parseMethodDescriptor y.desc = some sig → As.length = sig.parameters.length := fun sig hs => by
    have := hyn.2.2
    rw [hs] at this
    rw [hn]; exact (Option.some.inj this).symm
  intro T hT X
  obtain ⟨vm₁, X₁, hstep₁⟩ := X.invokestatic hx hown (hW _ hlink) hnamed hmethM hstatic hkP hinitP ⟨hyn.1, hyn.2.1⟩ (g := g) hg (argsL := As) (rest := rest) (hlen _ hsigM) hstack (by rw [hb]; exact hdg)
  obtain ⟨v, ⟨U', l2, c2, s2⟩, X', ⟨g', mk', t, L, e1, e2, hq, h1, hL, h2, h3⟩, hsteps⟩ := hK m meth c ⟨T.setVm vm₁, locs, cells, slots⟩ { g with stack := rest } (.invokestatic index) mk As.toArray X₁ hg (hsize.trans hml.symm) (by rw [hb]; exact hdg) hw8 (X₁.named hnamed) ⟨hf.1, hf.2, hp.2 (T.setVm vm₁) hT X₁.warmed⟩
  dsimp only [Pt.U, Pt.locs, Pt.cells, Pt.slots] at X' e1 e2 h1 h2 h3 hsteps
  subst h1; subst h2; subst h3
  exact ⟨v, (T.setVm vm₁).calling g' mk' As.toArray, t, U', L, hT, X', hL, e1, e2, hq, fun target h => hstep₁ _ fun acts => by rw [doInvoke_state]; exact hsteps.trans h⟩
end CTB
/-- the body of a static method with handlers -/
theorem mx_metW {l : Launch} {y : MethodName} {cc : ByteArray} {maxL : Nat} {ret : Option FieldType} {hh : List (Nat × Nat × Nat × Nat)} {rm : Room} {D : va_G} {cs : CS} {Z : Nat → Nat} {h : HS} {sz mc ms : Nat} {As : List Value} (Qf : Nat → Array Value → State → Outcome → State → Prop) (hy : plainName y.cls = true) (hAs : (lg_sl As).length ≤ maxL)
    (body : ∀ (p : Program) (e : Env) (s : State) (m : MethodId) (args : Array Value) (below : List Frame) (meth : Method) (c : Code), mC D cs Z h y cc maxL ret p s m args meth c → c.exceptionTable.toList.map (fun h => (h.startPc, h.endPc, h.handlerPc, h.catchType)) = hh → mR D cs (fA h s.heap.size) h s.heap s.heap [] → ∀ ls : Array Slot, lv_has ls maxL (lv_args 0 As) → W p l e rm s m args below meth c s.heap [] 0 0 (MQ below (Qf s.heap.size) args s mc ms (fA h s.heap.size)) (F0 m 0 ls [])) :
    Met l y (Cond.codeWith y cc maxL ret hh :: WA) rm (mPc D cs Z h sz As) (Qf sz) mc ms (fA h sz) := by
  refine va_MetW (cc := cc) (maxL := maxL) (ret := ret) hy rfl ?_
  intro p e s m args below meth c s₁ B hml hv
  obtain ⟨rfl, hsz, hP, hK, hZ⟩ := hv
  subst hsz
  have hts := atoms_spec (ws := Cond.codeWith y cc maxL ret hh :: WA) B.pre
  have hl := lv_entry As (n := maxL) hAs
  obtain ⟨m9, meth9, c9, hn9, h1, h2, -, -, h5, -, -, -⟩ := Cond.codeWith_spec (hts _ List.mem_cons_self)
  cases B.named.symm.trans hn9
  cases B.method.symm.trans h1
  cases (Stand.of_body B).code.symm.trans h2
  rw [lg_entry_eq]
  exact body p e s m As.toArray below meth c ⟨B.exec, B.bytes, B.returns, hml, findClass_of_methodNamed B.named, fun w hw => hts w (List.mem_cons_of_mem _ hw), B.notSynchronized, (name_of_methodNamed B.named B.method).1, hK, hZ⟩ h5 ⟨hP.weaken (fun q hq _ => Or.inl hq), va_S.rf⟩ _ hl
