/-! CONTRACTS OVER PURE HEAPS. Z: a bag of addresses of the JVM's own (Z 0: ArrayList's empty array, Z 1: the class object of Object[]) -/
def fA (h : HS) (sz : Nat) : Nat → Prop := fun q => gT h q ≠ 0 ∨ sz ≤ q
def castP : List (String × String) := [("NetJoins$Bus", "java/lang/Object"), ("NetJoins$Port", "java/lang/Object"), ("NetJoins$Sheet", "java/lang/Object"), ("NetJoins$Spot", "java/lang/Object"), ("NetJoins$Wire", "java/lang/Object"), ("java/lang/IndexOutOfBoundsException", "java/lang/IndexOutOfBoundsException"), ("java/lang/IllegalStateException", "java/lang/IllegalStateException"), ("java/lang/IllegalArgumentException", "java/lang/IllegalArgumentException")]
def ncP : List (String × String) := [("java/lang/IllegalStateException", "java/lang/IndexOutOfBoundsException"), ("java/lang/IllegalArgumentException", "java/lang/IndexOutOfBoundsException"), ("java/lang/IllegalArgumentException", "java/lang/IllegalStateException")]
def declP : List MethodName := [⟨"java/lang/RuntimeException", "<init>", "(Ljava/lang/String;)V"⟩, ⟨"java/lang/Exception", "<init>", "(Ljava/lang/String;)V"⟩, ⟨"java/lang/Throwable", "<init>", "(Ljava/lang/String;)V"⟩]
def strP : List (Nat × String) := [(282, "no such sheet"), (286, "the sheet is not drawn"), (299, "no place"), (112, "both ends of the wire are the same place"), (301, "no name"), (291, "no such label on the sheet"), (289, "the sheet has no parent"), (293, "no such pin"), (244, "no such copy"), (208, "no rank"), (252, "no such net"), (219, "no such wire")]
def mAOA (U : State) : Prop := (Cond.arrayOver (.array .int)).before #[] U = true
/-- what the tables say, whatever the heap -/
def mK (D : va_G) (cs : CS) (Z : Nat → Nat) (U : State) : Prop := va_K D vcl (mtys cs) U ∧ va_AO "java/lang/Object" U ∧ va_Mi "[Ljava/lang/Object;" (Z 1) U ∧ va_Dc U ∧ mAOA U ∧ (∀ q ∈ castP, va_Nw (.castable q.1 q.2) U) ∧ (∀ q ∈ ncP, va_Nc q.1 q.2 U) ∧ (∀ q ∈ declP, va_Nw (.declares q) U) ∧ ∀ q ∈ strP, vk_R "NetJoins" q.1 q.2 (Z q.1) U
/-- a static field's place: not of the world A -/
def mLs (C n d : String) (A : Nat → Prop) (U : State) (H : Heap) : Prop := ∃ (c : ClassId) (k : Class) (i : Nat) (f : Field) (a : Nat) (cell : Cell), U.vm.findClass C = some c ∧ U.fieldFound? C n d = some (c, k, i, f) ∧ (f.isStatic = true ∧ k.statics = some a ∧ k.staticTypes[f.slot]? = some f.type) ∧ H[a]? = some cell ∧ (cell.vm.isStatics = true ∧ cell.cls = c ∧ f.slot < cell.slots.size) ∧ ¬ A a
theorem mLs.moved {C n d : String} {A : Nat → Prop} {u U : State} {H : Heap} (hvm : u.vm.Alike U.vm) (h : mLs C n d A u H) : mLs C n d A U H := by
  obtain ⟨c, k, i, f, a, cell, h1, h2, h3, h4⟩ := h
  obtain ⟨k', hi', he⟩ := State.fieldFound?_setVm hvm h2
  exact ⟨c, k', i, f, a, cell, by rw [hvm.findClass]; exact h1, hi', by rw [he]; exact h3, h4⟩
theorem mLs.kept {C n d : String} {A : Nat → Prop} {U : State} {H H1 : Heap} (h : mLs C n d A U H) (hq : ∀ a : Nat, a < H.size → ¬ A a → H1[a]? = H[a]?) : mLs C n d A U H1 := by
  obtain ⟨c, k, i, f, a, cell, h1, h2, h3, h4, h5, h6⟩ := h
  exact ⟨c, k, i, f, a, cell, h1, h2, h3, by rw [hq a (Array.getElem?_eq_some_iff.mp h4).1 h6]; exact h4, h5, h6⟩
theorem mLs.narrow {C n d : String} {A B : Nat → Prop} {U : State} {H : Heap} (h : mLs C n d A U H) (hAB : ∀ q, B q → A q) : mLs C n d B U H := by
  obtain ⟨c, k, i, f, a, cell, h1, h2, h3, h4, h5, h6⟩ := h
  exact ⟨c, k, i, f, a, cell, h1, h2, h3, h4, h5, fun z => h6 (hAB a z)⟩
theorem mLs.word {C n d : String} {A : Nat → Prop} {s : State} {args : Array Value} (h : mLs C n d A s s.heap) : (Cond.laysStatic C n d).before args s = true := by
  obtain ⟨c, k, i, f, a, cell, h1, h2, ⟨h3, h4, h5⟩, h6, ⟨h7, h8, h9⟩, -⟩ := h
  simp [Cond.before, Cond.holds, Cond.value, h1, h2, h3, h4, h5, h6, h7, h8, h9]
/-- two statics of Throwable, of which a throw reads -/
def mTh (A : Nat → Prop) (U : State) (H : Heap) : Prop := (va_Zq "java/lang/Throwable" "UNASSIGNED_STACK" "[Ljava/lang/StackTraceElement;" A U H ∧ mLs "java/lang/Throwable" "UNASSIGNED_STACK" "[Ljava/lang/StackTraceElement;" A U H) ∧ va_Zq "java/lang/Throwable" "SUPPRESSED_SENTINEL" "Ljava/util/List;" A U H ∧ mLs "java/lang/Throwable" "SUPPRESSED_SENTINEL" "Ljava/util/List;" A U H
def mZ (Z : Nat → Nat) (A : Nat → Prop) (U : State) (H : Heap) : Prop := (va_Z "java/util/ArrayList" "DEFAULTCAPACITY_EMPTY_ELEMENTDATA" "[Ljava/lang/Object;" (.ref (Z 0)) A U H ∧ va_T (.object "java/lang/Object") (Z 0) 0 (fun _ => .null) A U H) ∧ mTh A U H
theorem mAOA.moved {u U : State} (hvm : u.vm.Alike U.vm) (h : mAOA u) : mAOA U := by
  unfold mAOA Cond.before Cond.holds at h ⊢
  simp only [Cond.value, beq_iff_eq] at h ⊢
  rw [hvm.findClass, hvm.findClass]
  cases hc : u.vm.findClass (FieldType.array FieldType.int).toString with
  | none => simp [hc] at h
  | some comp =>
    simp only [hc, Option.bind_some, Option.bind_eq_some_iff, Option.map_eq_some_iff] at h ⊢
    obtain ⟨c, hi, k, hk, hb⟩ := h
    obtain ⟨k', hk', he⟩ := hvm.2.2 _ _ hk
    have e1 := va_idx_bare U.vm comp
    have e2 := va_idx_bare u.vm comp
    have e3 : U.vm.bare = u.vm.bare := by first | exact hvm.bare_eq | exact hvm.bare_eq.symm
    rw [e3] at e1
    have hi2 := e1.symm.trans (e2.trans hi)
    exact ⟨c, hi2, k', hk', by rw [he]; exact hb⟩
theorem mK.warm {D : va_G} {cs : CS} {Z : Nat → Nat} {u U : State} (hW : u.WarmedH U.vm) (h : mK D cs Z u) : mK D cs Z U := by
  obtain ⟨h1, h2, h3, h4, h5, h6, h7, h8, h9⟩ := h
  exact ⟨h1.moved hW.alike, h2.moved hW.alike, h3.moved hW.alike, h4.moved hW.alike, h5.moved hW.alike, fun q hq => (h6 q hq).warmC hW, fun q hq => (h7 q hq).moved hW.alike, fun q hq => (h8 q hq).warmD hW, fun q hq => (h9 q hq).warm hW⟩
theorem mK.same {D : va_G} {cs : CS} {Z : Nat → Nat} {u U : State} (hv : u.vm = U.vm) (h : mK D cs Z u) : mK D cs Z U := by
  obtain ⟨h1, h2, h3, h4, h5, h6, h7, h8, h9⟩ := h
  have hvm : u.vm.Alike U.vm := by rw [hv]; exact Vm.Alike.refl _
  exact ⟨h1.moved hvm, h2.moved hvm, h3.moved hvm, h4.moved hvm, h5.moved hvm, fun q hq => va_Nw.same rfl hv (h6 q hq), fun q hq => (h7 q hq).moved hvm, fun q hq => va_Nw.same rfl hv (h8 q hq), fun q hq => vk_R.same hv.symm (h9 q hq)⟩
theorem mTh.moved {A : Nat → Prop} {u U : State} {H : Heap} (hvm : u.vm.Alike U.vm) (h : mTh A u H) : mTh A U H := ⟨⟨h.1.1.moved hvm, h.1.2.moved hvm⟩, h.2.1.moved hvm, h.2.2.moved hvm⟩
theorem mTh.kept {A : Nat → Prop} {U : State} {H H1 : Heap} (h : mTh A U H) (hq : ∀ a : Nat, a < H.size → ¬ A a → H1[a]? = H[a]?) : mTh A U H1 := ⟨⟨h.1.1.kept hq, h.1.2.kept hq⟩, h.2.1.kept hq, h.2.2.kept hq⟩
theorem mTh.narrow {A B : Nat → Prop} {U : State} {H : Heap} (h : mTh A U H) (hAB : ∀ q, B q → A q) : mTh B U H := ⟨⟨h.1.1.narrow hAB, h.1.2.narrow hAB⟩, h.2.1.narrow hAB, h.2.2.narrow hAB⟩
theorem mZ.moved {Z : Nat → Nat} {A : Nat → Prop} {u U : State} {H : Heap} (hvm : u.vm.Alike U.vm) (h : mZ Z A u H) : mZ Z A U H := ⟨⟨h.1.1.moved hvm, h.1.2.moved hvm⟩, h.2.moved hvm⟩
theorem mZ.kept {Z : Nat → Nat} {A : Nat → Prop} {U : State} {H H1 : Heap} (h : mZ Z A U H) (hq : ∀ a : Nat, a < H.size → ¬ A a → H1[a]? = H[a]?) : mZ Z A U H1 := ⟨⟨h.1.1.kept hq, h.1.2.kept hq⟩, h.2.kept hq⟩
theorem mZ.narrow {Z : Nat → Nat} {A B : Nat → Prop} {U : State} {H : Heap} (h : mZ Z A U H) (hAB : ∀ q, B q → A q) : mZ Z B U H := ⟨⟨h.1.1.narrow hAB, h.1.2.narrow hAB⟩, h.2.narrow hAB⟩
def mPc (D : va_G) (cs : CS) (Z : Nat → Nat) (h : HS) (sz : Nat) (As : List Value) : Array Value → State → Prop := va_Pc As (fun U => U.heap.size = sz ∧ mP D cs (fun _ => True) h U.heap ∧ mK D cs Z U ∧ mZ Z (fA h sz) U U.heap)
def mB (D : va_G) (cs : CS) (h : HS) (sz : Nat) : HS → State → Prop := fun u t => mP D cs (fA h sz) u t.heap
theorem mP.weaken {D : va_G} {cs : CS} {A B : Nat → Prop} {h : HS} {H : Heap} (hP : mP D cs A h H) (hAB : ∀ q, gT h q ≠ 0 → A q → B q) : mP D cs B h H := by
  obtain ⟨L, hL, hP, hD⟩ := hP
  refine ⟨L, hL, hP, hD.weaken fun k q hk hq => hAB q.1 ?_ hq⟩
  rw [List.nil_append] at hk
  obtain ⟨b, hb, rfl⟩ := List.mem_map.mp (List.mem_of_getElem? hk)
  exact (hL b).mp hb
theorem mP.in {D : va_G} {cs : CS} {A : Nat → Prop} {h : HS} {H : Heap} (hP : mP D cs A h H) {q : Nat} (ht : gT h q ≠ 0) : A q := (hP.at ht).2
theorem fA_in {D : va_G} {cs : CS} {A : Nat → Prop} {h : HS} {H0 H : Heap} {locs : List Loc} (hR : mR D cs A h H0 H locs) (hA : ∀ q, H0.size ≤ q → A q) : ∀ q, fA h H.size q → A q := by
  intro q hq
  rcases hq with hq | hq
  · exact hR.1.in hq
  · exact hA q (Nat.le_trans hR.2.1 hq)
section MXB
variable {p : Program} {l : Launch} {e : Env} {R : Room} {s : State} {m : MethodId} {args : Array Value} {below : List Frame} {meth : Method} {c : Code} {H : Heap} {locs : List Loc} {cells slots : Nat} {Q : State → Prop}
variable {cc : ByteArray} {pc : Nat} {ls : Array Slot} {rest st0 : List Value} {D : va_G} {cs : CS} {Z : Nat → Nat} {A : Nat → Prop} {h : HS} {r : Option Nat} {a : Nat}
theorem mx_blind {sz : Nat} {As : List Value} : FrameBlind (mPc D cs Z h sz As) := by
  intro v U g mk q
  obtain ⟨q0, q1, q2, q3, q4⟩ := q
  exact ⟨q0, q1, q2, q3.same rfl, q4.moved (Vm.Alike.refl U.vm)⟩
theorem mx_pre {As : List Value} (hK : mK D cs Z s) (hZ : mZ Z A s s.heap) (hA : ∀ q, s.heap.size ≤ q → A q) (hR : mR D cs A h s.heap H locs) : ∀ U : State, U.heap = H → s.WarmedH U.vm → mPc D cs Z h H.size As As.toArray U := by
  intro U hU hW
  refine ⟨rfl, by rw [hU], by rw [hU]; exact hR.1.weaken (fun _ _ _ => trivial), hK.warm hW, ?_⟩
  rw [hU]
  exact ((hZ.kept hR.2.2.1).narrow (fA_in hR hA)).moved hW.alike
theorem mx_preS {As : List Value} (hK : mK D cs Z s) (hZ : mZ Z A s s.heap) (hA : ∀ q, s.heap.size ≤ q → A q) (hR : mR D cs A h s.heap H locs) : PreS s H (mPc D cs Z h H.size As) As := ⟨mx_blind, mx_pre hK hZ hA hR⟩
theorem mx_preV {As : List Value} {C : String} {T : u_T} {N ci b : Nat} (hK : mK D cs Z s) (hZ : mZ Z A s s.heap) (hA : ∀ q, s.heap.size ≤ q → A q) (hR : mR D cs A h s.heap H locs) (hc : vcl[ci]? = some (C, T, N)) (ht : gT h b = 16 + ci) : PreV s H C b (mPc D cs Z h H.size (.ref b :: As)) As := by
  refine ⟨mx_blind, ?_, mx_pre hK hZ hA hR⟩
  obtain ⟨⟨L, hL, hP, hD⟩, hS⟩ := hR
  obtain ⟨q0, hq⟩ := va_pl_get (X := []) (f := toE cs h) ((hL b).mpr (by rw [ht]; omega))
  rw [toE_o ht] at hq
  exact va_recv hK.1 hP hc hq
theorem mx_behind {H1 : Heap} {locs1 : List Loc} {u : HS} {t : State} (hR : mR D cs A h s.heap H locs) (hA : ∀ q, s.heap.size ≤ q → A q) (ht : t.heap = H1) (hB : mB D cs h H.size u t) (hS : va_S A s.heap H1 locs1) : mR D cs A u s.heap H1 locs1 := by
  refine ⟨?_, hS⟩
  have hB' : mP D cs (fA h H.size) u t.heap := hB
  rw [ht] at hB'
  exact hB'.weaken (fun q _ hq => fA_in hR hA q hq)
variable {ar : Array Value} {mc ms : Nat}
theorem mx_calli {post : Int32 → HS → Prop} (hr : va_Run p l e R s m args below meth c H locs cells slots mc ms (F0 m pc ls st0) rest (va_Qi post (mB D cs h H.size) (fA h H.size) ar) (fA h H.size)) (hR : mR D cs A h s.heap H locs) (hA : ∀ q, s.heap.size ≤ q → A q)
    (kk : ∀ (v : Int32) (u : HS) (H1 : Heap) (locs1 : List Loc), post v u → mR D cs A u s.heap H1 locs1 → W p l e R s m args below meth c H1 locs1 (cells + mc) (slots + ms) Q (F0 m (pc + 3) ls (.int v :: rest))) : W p l e R s m args below meth c H locs cells slots Q (F0 m pc ls st0) :=
  va_calli hr hR.2 (fun q _ hq => fA_in hR hA q hq) (fA_in hR hA) fun v u t H1 locs1 ht hvm hw hB hz hk hS => kk v u H1 locs1 hw (mx_behind hR hA ht hB hS)
theorem mx_calll {post : Int64 → HS → Prop} (hr : va_Run p l e R s m args below meth c H locs cells slots mc ms (F0 m pc ls st0) rest (va_Ql post (mB D cs h H.size) (fA h H.size) ar) (fA h H.size)) (hR : mR D cs A h s.heap H locs) (hA : ∀ q, s.heap.size ≤ q → A q)
    (kk : ∀ (v : Int64) (u : HS) (H1 : Heap) (locs1 : List Loc), post v u → mR D cs A u s.heap H1 locs1 → W p l e R s m args below meth c H1 locs1 (cells + mc) (slots + ms) Q (F0 m (pc + 3) ls (.long v :: rest))) : W p l e R s m args below meth c H locs cells slots Q (F0 m pc ls st0) :=
  va_calll hr hR.2 (fun q _ hq => fA_in hR hA q hq) (fA_in hR hA) fun v u t H1 locs1 ht hvm hw hB hz hk hS => kk v u H1 locs1 hw (mx_behind hR hA ht hB hS)
theorem mx_callv {post : HS → Prop} (hr : va_Run p l e R s m args below meth c H locs cells slots mc ms (F0 m pc ls st0) rest (va_Qv post (mB D cs h H.size) (fA h H.size) ar) (fA h H.size)) (hR : mR D cs A h s.heap H locs) (hA : ∀ q, s.heap.size ≤ q → A q)
    (kk : ∀ (u : HS) (H1 : Heap) (locs1 : List Loc), post u → mR D cs A u s.heap H1 locs1 → W p l e R s m args below meth c H1 locs1 (cells + mc) (slots + ms) Q (F0 m (pc + 3) ls rest)) : W p l e R s m args below meth c H locs cells slots Q (F0 m pc ls st0) :=
  va_callv hr hR.2 (fun q _ hq => fA_in hR hA q hq) (fA_in hR hA) fun u t H1 locs1 ht hvm hw hB hz hk hS => kk u H1 locs1 hw (mx_behind hR hA ht hB hS)
theorem mx_callr {post : Option Nat → HS → Prop} (hr : va_Run p l e R s m args below meth c H locs cells slots mc ms (F0 m pc ls st0) rest (va_Qq post (mB D cs h H.size) (fA h H.size) ar) (fA h H.size)) (hR : mR D cs A h s.heap H locs) (hA : ∀ q, s.heap.size ≤ q → A q)
    (kk : ∀ (v : Option Nat) (u : HS) (H1 : Heap) (locs1 : List Loc), post v u → mR D cs A u s.heap H1 locs1 → W p l e R s m args below meth c H1 locs1 (cells + mc) (slots + ms) Q (F0 m (pc + 3) ls (va_rf v :: rest))) : W p l e R s m args below meth c H locs cells slots Q (F0 m pc ls st0) :=
  va_callq hr hR.2 (fun q _ hq => fA_in hR hA q hq) (fA_in hR hA) fun v u t H1 locs1 ht hvm hw hB hz hk hS => kk v u H1 locs1 hw (mx_behind hR hA ht hB hS)
/-! ends -/
variable {h0 : HS}
theorem mx_iret {post : Int32 → HS → Prop} {v : Int32} (hx : p.tables.exec = Jvm.exec) (hb : c.code = cc) (hr : meth.sig.returnType = some .int) (hlocks : meth.locks = false) (hR : mR D cs (fA h0 s.heap.size) h s.heap H locs) (hw : post v h) (hdg : decode cc pc = .ok (.ireturn, 1)) : W p l e R s m args below meth c H locs cells slots (MQ below (va_Qi post (mB D cs h0 s.heap.size) (fA h0 s.heap.size)) args s cells slots (fA h0 s.heap.size)) (F0 m pc ls [.int v]) :=
  W.iret (v := v) hx hb hr (fun t ht hW => ⟨⟨v, h, rfl, hw, by show mP _ _ _ _ _; rw [ht]; exact hR.1⟩, hR.2.F ht⟩) hR.2.2.2 hdg hlocks
theorem mx_zret {post : Int32 → HS → Prop} {v : Int32} (hx : p.tables.exec = Jvm.exec) (hb : c.code = cc) (hr : meth.sig.returnType = some .boolean) (hlocks : meth.locks = false) (hR : mR D cs (fA h0 s.heap.size) h s.heap H locs) (hz : v = 0 ∨ v = 1) (hw : post v h) (hdg : decode cc pc = .ok (.ireturn, 1)) : W p l e R s m args below meth c H locs cells slots (MQ below (va_Qi post (mB D cs h0 s.heap.size) (fA h0 s.heap.size)) args s cells slots (fA h0 s.heap.size)) (F0 m pc ls [.int v]) :=
  W.zret (v := v) (ty := .boolean) hx hb hr (mx_z_n hz).1 (fun t ht hW => ⟨⟨v, h, rfl, hw, by show mP _ _ _ _ _; rw [ht]; exact hR.1⟩, hR.2.F ht⟩) hR.2.2.2 hdg hlocks
theorem mx_vret {post : HS → Prop} (hx : p.tables.exec = Jvm.exec) (hb : c.code = cc) (hr : meth.sig.returnType = none) (hlocks : meth.locks = false) (hR : mR D cs (fA h0 s.heap.size) h s.heap H locs) (hw : post h) (hdg : decode cc pc = .ok (.return_, 1)) : W p l e R s m args below meth c H locs cells slots (MQ below (va_Qv post (mB D cs h0 s.heap.size) (fA h0 s.heap.size)) args s cells slots (fA h0 s.heap.size)) (F0 m pc ls []) :=
  W.vret hx hb hr (fun t ht hW => ⟨⟨h, rfl, hw, by show mP _ _ _ _ _; rw [ht]; exact hR.1⟩, hR.2.F ht⟩) hR.2.2.2 hdg hlocks
theorem mx_aret {post : Option Nat → HS → Prop} {v : Option Nat} {rt : FieldType} (hx : p.tables.exec = Jvm.exec) (hb : c.code = cc) (hr : meth.sig.returnType = some rt) (hrt : (∃ n, rt = .object n) ∨ ∃ t, rt = .array t) (hlocks : meth.locks = false) (hR : mR D cs (fA h0 s.heap.size) h s.heap H locs) (hw : post v h) (hdg : decode cc pc = .ok (.areturn, 1)) : W p l e R s m args below meth c H locs cells slots (MQ below (va_Qq post (mB D cs h0 s.heap.size) (fA h0 s.heap.size)) args s cells slots (fA h0 s.heap.size)) (F0 m pc ls [va_rf v]) :=
  W.aret (v := va_rf v) hx hb hr hrt (va_rf_or v) (fun t ht hW => ⟨⟨v, h, rfl, hw, by show mP _ _ _ _ _; rw [ht]; exact hR.1⟩, hR.2.F ht⟩) hR.2.2.2 hdg hlocks
end MXB
/-- what a walk stands on, whatever its place -/
def mC (D : va_G) (cs : CS) (Z : Nat → Nat) (h0 : HS) (y : MethodName) (cc : ByteArray) (maxL : Nat) (ret : Option FieldType) (p : Program) (s : State) (m : MethodId) (args : Array Value) (meth : Method) (c : Code) : Prop :=
  p.tables.exec = Jvm.exec ∧ c.code = cc ∧ meth.sig.returnType = ret ∧ c.maxLocals = maxL ∧ s.vm.findClass y.cls = some m.cls ∧ (∀ w ∈ WA, w.before args s = true) ∧ meth.locks = false ∧ meth.name = y.name ∧ mK D cs Z s ∧ mZ Z (fA h0 s.heap.size) s s.heap
theorem mx_met {l : Launch} {y : MethodName} {cc : ByteArray} {maxL : Nat} {ret : Option FieldType} {rm : Room} {D : va_G} {cs : CS} {Z : Nat → Nat} {h : HS} {sz mc ms : Nat} {As : List Value} (Qf : Nat → Array Value → State → Outcome → State → Prop) (hy : plainName y.cls = true) (hAs : (lg_sl As).length ≤ maxL)
    (body : ∀ (p : Program) (e : Env) (s : State) (m : MethodId) (args : Array Value) (below : List Frame) (meth : Method) (c : Code), mC D cs Z h y cc maxL ret p s m args meth c → mR D cs (fA h s.heap.size) h s.heap s.heap [] → ∀ ls : Array Slot, lv_has ls maxL (lv_args 0 As) → W p l e rm s m args below meth c s.heap [] 0 0 (MQ below (Qf s.heap.size) args s mc ms (fA h s.heap.size)) (F0 m 0 ls [])) :
    Met l y (Cond.code y cc maxL ret :: WA) rm (mPc D cs Z h sz As) (Qf sz) mc ms (fA h sz) := by
  refine Met.ofW (cc := cc) (maxL := maxL) (ret := ret) hy rfl ?_
  intro p e s m args below meth c s₁ B hml hv
  obtain ⟨rfl, hsz, hP, hK, hZ⟩ := hv
  subst hsz
  have hts := atoms_spec (ws := Cond.code y cc maxL ret :: WA) B.pre
  have hl := lv_entry As (n := maxL) hAs
  rw [lg_entry_eq]
  exact body p e s m As.toArray below meth c ⟨B.exec, B.bytes, B.returns, hml, findClass_of_methodNamed B.named, fun w hw => hts w (List.mem_cons_of_mem _ hw), B.notSynchronized, (name_of_methodNamed B.named B.method).1, hK, hZ⟩ ⟨hP.weaken (fun q hq _ => Or.inl hq), va_S.rf⟩ _ hl
/-! words of a call -/
theorem gi_b {c2 : Cond} (h : c2 ∈ WA) : GoodIn WA (c2 :: WA) := fun w hw => (List.mem_cons.mp hw).elim (fun e => by rw [e]; exact ⟨h, wa_good h⟩) (wa_self w)
def vOK (y : MethodName) (bytes : ByteArray) (maxL : Nat) (ret : Option FieldType) (n : Nat) : Prop := Cond.code y bytes maxL ret ∈ WA ∧ Cond.instanceMethod y ∈ WA ∧ Cond.selects y.cls y y ∈ WA ∧ Cond.initialized y.cls ∈ WA ∧ (y.cls ≠ "java/lang/invoke/MethodHandle" ∧ y.cls ≠ "java/lang/invoke/VarHandle" ∧ (parseMethodDescriptor y.desc).map (fun d => d.parameters.length) = some n)
def sOK (y : MethodName) (bytes : ByteArray) (maxL : Nat) (ret : Option FieldType) (n : Nat) : Prop := Cond.code y bytes maxL ret ∈ WA ∧ Cond.static y ∈ WA ∧ Cond.initialized y.cls ∈ WA ∧ (y.cls ≠ "java/lang/invoke/MethodHandle" ∧ y.cls ≠ "java/lang/invoke/VarHandle" ∧ (parseMethodDescriptor y.desc).map (fun d => d.parameters.length) = some n)
def iOK (y : MethodName) (bytes : ByteArray) (maxL : Nat) (n : Nat) : Prop := Cond.code y bytes maxL none ∈ WA ∧ Cond.instanceMethod y ∈ WA ∧ Cond.initialized y.cls ∈ WA ∧ y.name = "<init>" ∧ (y.cls ≠ "java/lang/invoke/MethodHandle" ∧ y.cls ≠ "java/lang/invoke/VarHandle" ∧ (parseMethodDescriptor y.desc).map (fun d => d.parameters.length) = some n)
section MXD
variable {R : Room} {s : State} {args : Array Value} {own : String} {index : Nat} {y : MethodName} {bytes : ByteArray} {maxL : Nat} {ret : Option FieldType} {rm : Room} {mc ms n : Nat}
theorem mx_cwV (hW : ∀ w ∈ WA, w.before args s = true) (hy : vOK y bytes maxL ret n) (hl : Cond.methodLink own index y ∈ WA) (hrc : rm.cells = mc) (hrs : rm.slots = ms) (hR : rm.frames + 1 ≤ R.frames ∧ 8 + (maxL + 11) + rm.locals ≤ R.locals) : CallW R s args own y.cls index y bytes maxL ret (Cond.code y bytes maxL ret :: WA) rm mc ms n :=
  ⟨callB_of n hW (gi_b hy.1) rfl hrc hrs (hW _ hy.2.2.2.1) (hW _ hl) hy.2.2.2.2 hR, hW _ hy.2.1, hW _ hy.2.2.1⟩
theorem mx_cwS (hW : ∀ w ∈ WA, w.before args s = true) (hy : sOK y bytes maxL ret n) (hl : Cond.methodLink own index y ∈ WA) (hrc : rm.cells = mc) (hrs : rm.slots = ms) (hR : rm.frames + 1 ≤ R.frames ∧ 8 + (maxL + 11) + rm.locals ≤ R.locals) : CallB R s args own index y bytes maxL ret (Cond.code y bytes maxL ret :: WA) rm mc ms n ∧ (Cond.static y).before args s = true :=
  ⟨callB_of n hW (gi_b hy.1) rfl hrc hrs (hW _ hy.2.2.1) (hW _ hl) hy.2.2.2 hR, hW _ hy.2.1⟩
theorem mx_cwI (hW : ∀ w ∈ WA, w.before args s = true) (hy : iOK y bytes maxL n) (hl : Cond.methodLink own index y ∈ WA) (hrc : rm.cells = mc) (hrs : rm.slots = ms) (hR : rm.frames + 1 ≤ R.frames ∧ 8 + (maxL + 11) + rm.locals ≤ R.locals) : CallB R s args own index y bytes maxL none (Cond.code y bytes maxL none :: WA) rm mc ms n ∧ y.name = "<init>" ∧ (Cond.instanceMethod y).before args s = true :=
  ⟨callB_of n hW (gi_b hy.1) rfl hrc hrs (hW _ hy.2.2.1) (hW _ hl) hy.2.2.2.2 hR, hy.2.2.2.1, hW _ hy.2.1⟩
end MXD
