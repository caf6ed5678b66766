/-! MORE ROWS: arrays of references, copies, ArrayList's empty array, class objects -/
/-- the kinds of what stands in lists: Bus, Port, Sheet, Spot, Wire -/
def lsT (t : Nat) : Prop := t = 17 ∨ t = 20 ∨ t = 21 ∨ t = 22 ∨ t = 23
section MXE
variable {p : Program} {l : Launch} {e : Env} {R : Room} {s : State} {m : MethodId} {args : Array Value} {below : List Frame} {meth : Method} {c : Code} {H : Heap} {locs : List Loc} {cells slots : Nat} {Q : State → Prop}
variable {cc : ByteArray} {pc : Nat} {ls : Array Slot} {rest : List Value} {D : va_G} {cs : CS} {Z : Nat → Nat} {A : Nat → Prop} {h : HS} {r : Option Nat} {a : Nat}
theorem mx_empty (hx : p.tables.exec = Jvm.exec) (hb : c.code = cc) (hW : ∀ w ∈ WA, w.before args s = true) {index : Nat} (hown : s.vm.findClass "java/util/ArrayList" = some m.cls) (hZ : mZ Z A s s.heap) (hR : mR D cs A h s.heap H locs) (hlink : Cond.fieldLink "java/util/ArrayList" index "java/util/ArrayList" "DEFAULTCAPACITY_EMPTY_ELEMENTDATA" "[Ljava/lang/Object;" ∈ WA) (hdg : decode cc pc = .ok (.getstatic index, 3))
    (kk : W p l e R s m args below meth c H locs cells slots Q (F0 m (pc + 3) ls (va_rf (some (Z 0)) :: rest))) : W p l e R s m args below meth c H locs cells slots Q (F0 m pc ls rest) :=
  va_gets hx hb hZ.1.1 hR.2 hown (hW _ hlink) (fun _ h9 => h9) hdg kk
/-- the length of an array of objects, or of ArrayList's empty one -/
theorem mx_alenZ (hx : p.tables.exec = Jvm.exec) (hb : c.code = cc) (hK : va_K D vcl (mtys cs) s) (hZ : mZ Z A s s.heap) (hR : mR D cs A h s.heap H locs) {n : Nat} (hr : (r = some (Z 0) ∧ n = 0) ∨ ∃ a, r = some a ∧ gT h a = 4 ∧ n = gN h a) (hdg : decode cc pc = .ok (.arraylength, 1))
    (kk : W p l e R s m args below meth c H locs cells slots Q (F0 m (pc + 1) ls (.int (nI n) :: rest))) : W p l e R s m args below meth c H locs cells slots Q (F0 m pc ls (va_rf r :: rest)) := by
  rcases hr with ⟨rfl, rfl⟩ | ⟨a, rfl, ht, rfl⟩
  · exact va_tlen hx hb hZ.1.2 hR.2 rfl hdg kk
  · exact mx_alen hx hb hK hR (a := a) rfl (by rw [ht]; decide) (by rw [ht]; decide) hdg kk
theorem ls_any (hK : mK D cs Z s) (hP : mP D cs A h H) (ht : lsT (gT h a)) : va_Any "java/lang/Object" s H a := by
  obtain ⟨L, hL, hP, hD⟩ := hP
  obtain ⟨q0, hq⟩ := va_pl_get (X := []) (f := toE cs h) ((hL a).mpr (by rcases ht with z | z | z | z | z <;> rw [z] <;> decide))
  have key : ∀ (ci : Nat) (C : String) (T : u_T) (N : Nat), gT h a = 16 + ci → vcl[ci]? = some (C, T, N) → (C, "java/lang/Object") ∈ castP → va_Any "java/lang/Object" s H a := by
    intro ci C T N e1 e2 e3
    rw [toE_o e1] at hq
    refine va_rAny hK.1 hP hq e2 (fun comp c0 g1 g2 => ?_)
    obtain ⟨c1, t1, f1, f2, f3⟩ := Cond.castable_spec (va_Nw.use (A := #[]) rfl (hK.2.2.2.2.2.1 _ e3))
    cases g2.symm.trans f1
    cases g1.symm.trans f2
    exact f3
  rcases ht with z | z | z | z | z
  · exact key 1 "NetJoins$Bus" F_Bus 4 z rfl (by decide)
  · exact key 4 "NetJoins$Port" F_Port 5 z rfl (by decide)
  · exact key 5 "NetJoins$Sheet" F_Sheet 5 z rfl (by decide)
  · exact key 6 "NetJoins$Spot" F_Spot 6 z rfl (by decide)
  · exact key 7 "NetJoins$Wire" F_Wire 7 z rfl (by decide)
theorem mx_oast (hx : p.tables.exec = Jvm.exec) (hb : c.code = cc) (hK : mK D cs Z s) (hR : mR D cs A h s.heap H locs) (er : r = some a) (ht : gT h a = 4) {v : Option Nat} {b : Nat} (ev : v = some b) (htb : lsT (gT h b)) {i : Int32} (hin : vp_in i (gN h a)) (hdg : decode cc pc = .ok (.aastore, 1))
    (kk : ∀ (H1 : Heap) (locs1 : List Loc), mR D cs A (sQ h a i.toNatClampNeg v) s.heap H1 locs1 → W p l e R s m args below meth c H1 locs1 cells slots Q (F0 m (pc + 1) ls rest)) : W p l e R s m args below meth c H locs cells slots Q (F0 m pc ls (va_rf v :: .int i :: va_rf r :: rest)) := by
  subst er ev
  have hany := ls_any hK hR.1 htb
  obtain ⟨⟨L, hL, hP, hD⟩, hS⟩ := hR
  have hm : a ∈ L := (hL a).mpr (by rw [ht]; omega)
  obtain ⟨q0, hq⟩ := va_pl_get (X := []) (f := toE cs h) hm
  have hq' := hq
  rw [toE_4 ht] at hq'
  exact va_astqM hx hb hK.1 hP hD hS q0 3 hq' rfl hany hin hdg fun H1 locs1 hP1 hD1 hS1 => kk H1 locs1 ⟨mP.put hL hD hq hm rfl (toE_wQ (by rw [toE_4 (by exact ht), gQ_wQ]; rfl)) hP1 hD1, hS1⟩
theorem mx_arr_o (hx : p.tables.exec = Jvm.exec) (hb : c.code = cc) (hW : ∀ w ∈ WA, w.before args s = true) {own : String} {index : Nat} (hown : s.vm.findClass own = some m.cls) (hK : mK D cs Z s) (hR : mR D cs A h s.heap H locs) (hA : ∀ q, s.heap.size ≤ q → A q) (hcl : Cond.classLink own index "java/lang/Object" ∈ WA) {n : Int32} {N' : Nat} (hn : ¬ n < 0) (hN : n.toNatClampNeg = N') (hbytes : N' ≤ 100000) (hcells : cells + 1 ≤ R.cells) (hslots : slots + N' ≤ R.slots) (hdg : decode cc pc = .ok (.anewarray index, 3))
    (kk : ∀ (q : Nat) (H1 : Heap), gT h q = 0 → mR D cs A (nH h q 4 N') s.heap H1 locs → W p l e R s m args below meth c H1 locs (cells + 1) (slots + N') Q (F0 m (pc + 3) ls (va_rf (some q) :: rest))) : W p l e R s m args below meth c H locs cells slots Q (F0 m pc ls (.int n :: rest)) := by
  obtain ⟨⟨L, hL, hP, hD⟩, hS⟩ := hR
  refine va_newq hx hb hown (hW _ hcl) hK.2.1 hK.1 hP hD hS hA hn hN (by omega) hcells hslots hdg fun q cA H1 hK1 hP1 hD1 hS1 => ?_
  have e1 : cA = cs.2.2.2.1 := by
    obtain ⟨k1, c1, -, -, -, a1⟩ := (hK1.2 5 (cA, .object "java/lang/Object") rfl).2
    obtain ⟨k2, c2, -, -, -, a2⟩ := (hK.1.2 3 (cs.2.2.2.1, .object "java/lang/Object") rfl).2
    exact Option.some.inj (a1.symm.trans a2)
  subst e1
  obtain ⟨h1, h2⟩ := mP.new (t := 4) (n := N') hL (by omega) (by rw [toE_4 (gT_nH h q 4 N')]; simp [gN, gQ, nH, va_up]) hP1 hD1
  exact kk q H1 h2 ⟨h1, hS1⟩
/-- System.arraycopy of ints -/
theorem mx_copyi (hx : p.tables.exec = Jvm.exec) (hb : c.code = cc) (hW : ∀ w ∈ WA, w.before args s = true) (hml : c.maxLocals = ls.size) {own : String} {index : Nat} (hown : s.vm.findClass own = some m.cls) (hK : va_K D vcl (mtys cs) s) (hR : mR D cs A h s.heap H locs) (hlink : Cond.methodLink own index arraycopyName ∈ WA) (hnat : Cond.native arraycopyName ∈ WA) (hstat : Cond.static arraycopyName ∈ WA) (hini : Cond.initialized "java/lang/System" ∈ WA) {r0 : Option Nat} {a0 : Nat} (e0 : r0 = some a0) (ht0 : gT h a0 = 1) (er : r = some a) (ht : gT h a = 1) {sp dp n : Int32} (h1 : ¬ sp < 0) (h2 : ¬ dp < 0) (h3 : ¬ n < 0) (h4 : sp.toNatClampNeg + n.toNatClampNeg ≤ gN h a0) (h5 : dp.toNatClampNeg + n.toNatClampNeg ≤ gN h a)
    (hframes : 1 ≤ R.frames) (hlocals : (rest.map fun v => v.category).sum + (nativeFrameWords "java/lang/System" "arraycopy" 5 + 11) ≤ R.locals) (hdg : decode cc pc = .ok (.invokestatic index, 3))
    (kk : ∀ (H1 : Heap) (locs1 : List Loc), mR D cs A (wA h a (va_cpy (gA h a0) (gA h a) sp.toNatClampNeg dp.toNatClampNeg n.toNatClampNeg)) s.heap H1 locs1 → W p l e R s m args below meth c H1 locs1 cells slots Q (F0 m (pc + 3) ls rest)) : W p l e R s m args below meth c H locs cells slots Q (F0 m pc ls (.int n :: .int dp :: va_rf r :: .int sp :: va_rf r0 :: rest)) := by
  subst e0 er
  obtain ⟨⟨L, hL, hP, hD⟩, hS⟩ := hR
  have hm0 : a0 ∈ L := (hL a0).mpr (by rw [ht0]; omega)
  have hm : a ∈ L := (hL a).mpr (by rw [ht]; omega)
  obtain ⟨q0, hq0⟩ := va_pl_get (X := []) (f := toE cs h) hm0
  obtain ⟨q1, hq⟩ := va_pl_get (X := []) (f := toE cs h) hm
  have hq' := hq
  rw [toE_1 ht] at hq'
  rw [toE_1 ht0] at hq0
  exact va_copyi hx hb hml hown (hW _ hlink) (hW _ hnat) (hW _ hstat) (hW _ hini) hK hP hD hS q0 q1 0 0 hq0 hq' rfl rfl rfl h1 h2 h3 h4 h5 (fun _ _ => rfl) hframes hlocals hdg fun H1 locs1 hP1 hD1 hS1 => kk H1 locs1 ⟨mP.put hL hD hq hm rfl (toE_wA (by rw [toE_1 (by exact ht), gA_wA]; rfl)) hP1 hD1, hS1⟩
/-- System.arraycopy of what stands in lists -/
theorem mx_copyo (hx : p.tables.exec = Jvm.exec) (hb : c.code = cc) (hW : ∀ w ∈ WA, w.before args s = true) (hml : c.maxLocals = ls.size) {own : String} {index : Nat} (hown : s.vm.findClass own = some m.cls) (hK : mK D cs Z s) (hR : mR D cs A h s.heap H locs) (hlink : Cond.methodLink own index arraycopyName ∈ WA) (hnat : Cond.native arraycopyName ∈ WA) (hstat : Cond.static arraycopyName ∈ WA) (hini : Cond.initialized "java/lang/System" ∈ WA) {r0 : Option Nat} {a0 : Nat} (e0 : r0 = some a0) (ht0 : gT h a0 = 4) (er : r = some a) (ht : gT h a = 4) {sp dp n : Int32} (h1 : ¬ sp < 0) (h2 : ¬ dp < 0) (h3 : ¬ n < 0) (h4 : sp.toNatClampNeg + n.toNatClampNeg ≤ gN h a0) (h5 : dp.toNatClampNeg + n.toNatClampNeg ≤ gN h a) (hel : ∀ i, i < n.toNatClampNeg → ∀ y, gQ h a0 (sp.toNatClampNeg + i) = some y → lsT (gT h y))
    (hframes : 1 ≤ R.frames) (hlocals : (rest.map fun v => v.category).sum + (nativeFrameWords "java/lang/System" "arraycopy" 5 + 11) ≤ R.locals) (hdg : decode cc pc = .ok (.invokestatic index, 3))
    (kk : ∀ (H1 : Heap) (locs1 : List Loc), mR D cs A (wQ h a (va_cpy (gQ h a0) (gQ h a) sp.toNatClampNeg dp.toNatClampNeg n.toNatClampNeg)) s.heap H1 locs1 → W p l e R s m args below meth c H1 locs1 cells slots Q (F0 m (pc + 3) ls rest)) : W p l e R s m args below meth c H locs cells slots Q (F0 m pc ls (.int n :: .int dp :: va_rf r :: .int sp :: va_rf r0 :: rest)) := by
  subst e0 er
  have hPm := hR.1
  obtain ⟨⟨L, hL, hP, hD⟩, hS⟩ := hR
  have hm0 : a0 ∈ L := (hL a0).mpr (by rw [ht0]; omega)
  have hm : a ∈ L := (hL a).mpr (by rw [ht]; omega)
  obtain ⟨q0, hq0⟩ := va_pl_get (X := []) (f := toE cs h) hm0
  obtain ⟨q1, hq⟩ := va_pl_get (X := []) (f := toE cs h) hm
  have hq' := hq
  rw [toE_4 ht] at hq'
  rw [toE_4 ht0] at hq0
  exact va_copyM hx hb hml hown (hW _ hlink) (hW _ hnat) (hW _ hstat) (hW _ hini) hK.1 hP hD hS q0 q1 3 3 hq0 hq' rfl rfl h1 h2 h3 h4 h5 (fun i hi y hy => ls_any hK hPm (hel i hi y hy)) hframes hlocals hdg fun H1 locs1 hP1 hD1 hS1 => kk H1 locs1 ⟨mP.put hL hD hq hm rfl (toE_wQ (by rw [toE_4 (by exact ht), gQ_wQ]; rfl)) hP1 hD1, hS1⟩
theorem mx_ldcO (hx : p.tables.exec = Jvm.exec) (hb : c.code = cc) (hW : ∀ w ∈ WA, w.before args s = true) {own : String} {index : Nat} (hown : s.vm.findClass own = some m.cls) (hK : mK D cs Z s) (hlink : Cond.classLink own index "[Ljava/lang/Object;" ∈ WA) (hdg : decode cc pc = .ok (.ldc index, 2))
    (kk : W p l e R s m args below meth c H locs cells slots Q (F0 m (pc + 2) ls (va_rf (some (Z 1)) :: rest))) : W p l e R s m args below meth c H locs cells slots Q (F0 m pc ls rest) :=
  va_ldcM hx hb hown (hW _ hlink) hK.2.2.1 hdg kk
theorem mx_getC (hx : p.tables.exec = Jvm.exec) (hb : c.code = cc) (hW : ∀ w ∈ WA, w.before args s = true) (hml : c.maxLocals = ls.size) {own : String} {index : Nat} (hown : s.vm.findClass own = some m.cls) (hK : mK D cs Z s) (hR : mR D cs A h s.heap H locs) (hlink : Cond.methodLink own index ⟨"java/lang/Object", "getClass", "()Ljava/lang/Class;"⟩ ∈ WA) (hsel : Cond.selects "[Ljava/lang/Object;" ⟨"java/lang/Object", "getClass", "()Ljava/lang/Class;"⟩ ⟨"java/lang/Object", "getClass", "()Ljava/lang/Class;"⟩ ∈ WA) (hinst : Cond.instanceMethod ⟨"java/lang/Object", "getClass", "()Ljava/lang/Class;"⟩ ∈ WA) (hnat : Cond.native ⟨"java/lang/Object", "getClass", "()Ljava/lang/Class;"⟩ ∈ WA) (er : r = some a) (ht : gT h a = 4) (hframes : 1 ≤ R.frames) (hlocals : (rest.map fun v => v.category).sum + 14 ≤ R.locals) (hdg : decode cc pc = .ok (.invokevirtual index, 3))
    (kk : W p l e R s m args below meth c H locs cells slots Q (F0 m (pc + 3) ls (va_rf (some (Z 1)) :: rest))) : W p l e R s m args below meth c H locs cells slots Q (F0 m pc ls (va_rf r :: rest)) := by
  subst er
  have hcell := (hR.1.at (a := a) (by rw [ht]; decide)).1
  rw [toE_4 ht] at hcell
  obtain ⟨kA, comp, -, -, -, k4⟩ := (hK.1.2 3 (cs.2.2.2.1, .object "java/lang/Object") rfl).2
  exact va_getC hx hb hml hown (hW _ hlink) (va_Dc.use hK.2.2.2.1) (hW _ hsel) (hW _ hinst) (hW _ hnat) hK.2.2.1 ⟨_, hcell, rfl, k4⟩ hframes hlocals hdg kk
theorem mAOA_spec (hm : mAOA s) : ∃ comp c k, s.vm.findClass (FieldType.array .int).toString = some comp ∧ s.vm.classes[c]? = some k ∧ k.kind = .array comp (.array .int) ∧ s.vm.findClass ("[" ++ (FieldType.array .int).toString) = some c := by
  unfold mAOA Cond.before Cond.holds at hm
  simp only [Cond.value, beq_iff_eq] at hm
  cases hc : s.vm.findClass (FieldType.array FieldType.int).toString with
  | none => simp [hc] at hm
  | some comp =>
    simp only [hc, Option.bind_some, Option.bind_eq_some_iff, Option.map_eq_some_iff] at hm
    obtain ⟨c, hi, k, hk, hb⟩ := hm
    obtain ⟨hlt, hp, -⟩ := Array.findIdx?_eq_some_iff_getElem.mp hi
    have hkk : s.vm.classes[c] = k := (Array.getElem?_eq_some_iff.mp hk).2
    rw [hkk] at hp
    cases hkind : k.kind with
    | array component ty =>
      rw [hkind] at hb hp
      simp at hb hp
      exact ⟨comp, c, k, rfl, hk, by rw [hkind, hp, hb.1], hb.2⟩
    | _ => rw [hkind] at hb; simp at hb
/-- a row of ints is put into an array of rows -/
theorem mx_rast (hx : p.tables.exec = Jvm.exec) (hb : c.code = cc) (hK : mK D cs Z s) (hR : mR D cs A h s.heap H locs) (er : r = some a) (ht : gT h a = 5) {v : Option Nat} {b : Nat} (ev : v = some b) (htb : gT h b = 1) {i : Int32} (hin : vp_in i (gN h a)) (hdg : decode cc pc = .ok (.aastore, 1))
    (kk : ∀ (H1 : Heap) (locs1 : List Loc), mR D cs A (sQ h a i.toNatClampNeg v) s.heap H1 locs1 → W p l e R s m args below meth c H1 locs1 cells slots Q (F0 m (pc + 1) ls rest)) : W p l e R s m args below meth c H locs cells slots Q (F0 m pc ls (va_rf v :: .int i :: va_rf r :: rest)) := by
  subst er ev
  have hcb := (hR.1.at (a := b) (by rw [htb]; decide)).1
  rw [toE_1 htb] at hcb
  obtain ⟨comp, c1, k1, f1, f2, f3, f4⟩ := mAOA_spec hK.2.2.2.2.1
  have e1 : c1 = cs.2.2.2.2 := by
    have a2 : s.vm.findClass ("[" ++ (FieldType.array .int).toString) = some cs.2.2.2.2 := (hK.1.2 4 (cs.2.2.2.2, .array .int) rfl).2
    exact Option.some.inj (f4.symm.trans a2)
  have e2 : comp = cs.1 := by
    have a2 : s.vm.findClass ("[" ++ FieldType.int.toString) = some cs.1 := (hK.1.2 0 (cs.1, .int) rfl).2
    exact Option.some.inj (f1.symm.trans a2)
  subst e1 e2
  obtain ⟨kC, hkC, -⟩ := Vm.findClass_spec f1
  obtain ⟨⟨L, hL, hP, hD⟩, hS⟩ := hR
  have hm : a ∈ L := (hL a).mpr (by rw [ht]; omega)
  obtain ⟨q0, hq⟩ := va_pl_get (X := []) (f := toE cs h) hm
  have hq' := hq
  rw [toE_5 ht] at hq'
  have hlt : i.toNatClampNeg < gN h a := Nat.not_le.mp fun q => hin (Or.inr q)
  refine W.aast hx hb (hP q0 _ hq') (fun q h => by cases h) (fun h => by cases h) f2 f3 rfl hkC ⟨fun q => hin (Or.inl q), by show _ < (arrV _ _ _).slots.size; rw [arrV_size]; exact hlt⟩ hcb (fun q h => by cases h) hkC (va_asg _ _) rfl rfl hdg fun H1 e z oq => ?_
  have hx1 : va_at D vcl (a, .inl (cs.2.2.2.2, gN h a, .inr (.inr (.inr (.inr (va_up (gQ h a) i.toNatClampNeg (some b))))))) H1 := by
    show H1[a]? = some (vp_cell _ _)
    rw [e]
    rw [vp_cell_q, vp_cell_q, arrV_store]
    congr 2
    funext q
    by_cases hq9 : q = i.toNatClampNeg
    · subst hq9
      simp [updV, va_up, va_rf]
    · simp [updV, va_up, hq9]
  exact kk H1 _ ⟨mP.put hL hD hq hm rfl (toE_wQ (by rw [toE_5 (by exact ht), gQ_wQ]; rfl)) (hP.set hD hq' hx1 oq) (hD.set hq'), hS.put z oq (hD.2 q0 _ hq')⟩
end MXE
