def R_law : String := "NetJoinsLaw"
def lw_P (b : Addr) (xs : List Int32) (args : Array Value) (s : State) : Prop := args = #[.ref b] ∧ s.IntsAt b xs ∧ xs.length ≤ 5120 ∧ (Jvm.Cond.and given_1 narrow_1).before args s = true
/-- what holds at the law's entry: the machine, the code, the tables' words (any of lw_tbl by 'hts w (by decide +kernel)'), the script of L ints xs at the cell b, what the Statement gives of the start (any of its parts by flat_of_before) -/
def lw_At (p : Program) (s : State) (m : MethodId) (meth : Method) (c : Code) (b L : Nat) (xs : Nat → Int32) : Prop :=
  p.tables.exec = Jvm.exec ∧ c.code = code ∧ meth.sig.returnType = ret ∧ c.maxLocals = 7 ∧ s.vm.findClass R_law = some m.cls ∧ (∀ w ∈ lw_tbl, w.before #[Value.ref b] s = true) ∧ va_X b L xs s s.heap ∧ b < s.heap.size ∧ meth.locks = false ∧ (Jvm.Cond.and given_1 narrow_1).before #[Value.ref b] s = true
/-! THE START: what the tables and the Statement's premises give -/
def hE : HS := (fun _ => 0, fun _ _ => 0, fun _ _ => 0, fun _ _ => none, fun _ => 0, fun _ _ => 0, fun _ _ => 0, fun _ _ => none)
/-- what is left to show: an invariant of the two objects -/
def PURE : Prop := ∀ Z : Nat → Nat, ∃ Inv : Nat → Nat → Nat → HS → Prop, wl_start Z Inv hE ∧ ∀ (vx vm vo : Nat) (w : Nat → Int32) (h : HS), Inv vx vm vo h → wl Z w vx vm vo (Inv vx vm vo) h
theorem st_arr {args : Array Value} {s : State} {ty : FieldType} (h : (Cond.arrayClass ty).before args s = true) : ∃ cA, ArrOfT s cA ty ∧ s.vm.findClass ("[" ++ ty.toString) = some cA := by
  obtain ⟨c, k, comp, f1, f2, f3⟩ := Cond.arrayClass_spec h
  exact ⟨c, fun N z => ⟨(fun k h => by cases h), k, f2, comp, f3⟩, f1⟩
theorem st_lay {args : Array Value} {s : State} {C n d : String} {A : Nat → Prop} (h : (Cond.laysStatic C n d).before args s = true) (hA : ∀ a : Nat, a < s.heap.size → ¬ A a) : mLs C n d A s s.heap := by
  obtain ⟨c, k, i, f, a, cell, h1, h2, h3, h4, h5, h6, h7, h8, h9⟩ := Cond.laysStatic_spec h
  exact ⟨c, k, i, f, a, cell, h1, h2, ⟨h3, h4, h9⟩, h5, ⟨h6, h7, h8⟩, hA a (Array.getElem?_eq_some_iff.mp h5).1⟩
set_option maxHeartbeats 4000000 in
set_option maxRecDepth 100000 in
theorem st_known {s : State} {b : Nat} (hts : ∀ w ∈ lw_tbl, w.before #[Value.ref b] s = true) (hgv : (Jvm.Cond.and given_1 narrow_1).before #[Value.ref b] s = true) : ∃ (D : va_G) (cs : CS) (Z : Nat → Nat), mK D cs Z s ∧ mZ Z (fA hE s.heap.size) s s.heap := by
  have hWA : ∀ w ∈ WA, w.before #[Value.ref b] s = true := fun w hw => hts w (List.mem_filter.mp hw).1
  have hfl := flat_of_before _ hgv
  have hA : ∀ a : Nat, a < s.heap.size → ¬ fA hE s.heap.size a := fun a ha z => by
    rcases z with z | z
    · exact z rfl
    · omega
  obtain ⟨c0, iS0, hKn0⟩ := u_known (C := "NetJoins") (T := F_NJ) (N := 18) (n := 18) hWA i_NJ (hts _ (List.mem_append_right _ (List.mem_of_getElem? (i := 32) (by decide +kernel))))
  obtain ⟨c1, iS1, hKn1⟩ := u_known (C := "NetJoins$Bus") (T := F_Bus) (N := 4) (n := 4) hWA i_Bus (hts _ (List.mem_append_right _ (List.mem_of_getElem? (i := 1055) (by decide +kernel))))
  obtain ⟨c2, iS2, hKn2⟩ := u_known (C := "NetJoins$Joins") (T := F_Joins) (N := 1) (n := 1) hWA i_Joins (hts _ (List.mem_append_right _ (List.mem_of_getElem? (i := 66) (by decide +kernel))))
  obtain ⟨c3, iS3, hKn3⟩ := u_known (C := "NetJoins$NetTable") (T := F_Tab) (N := 7) (n := 7) hWA i_Tab (hts _ (List.mem_append_right _ (List.mem_of_getElem? (i := 86) (by decide +kernel))))
  obtain ⟨c4, iS4, hKn4⟩ := u_known (C := "NetJoins$Port") (T := F_Port) (N := 5) (n := 5) hWA i_Port (hts _ (List.mem_append_right _ (List.mem_of_getElem? (i := 1018) (by decide +kernel))))
  obtain ⟨c5, iS5, hKn5⟩ := u_known (C := "NetJoins$Sheet") (T := F_Sheet) (N := 5) (n := 5) hWA i_Sheet (hts _ (List.mem_append_right _ (List.mem_of_getElem? (i := 516) (by decide +kernel))))
  obtain ⟨c6, iS6, hKn6⟩ := u_known (C := "NetJoins$Spot") (T := F_Spot) (N := 6) (n := 6) hWA i_Spot (hts _ (List.mem_append_right _ (List.mem_of_getElem? (i := 693) (by decide +kernel))))
  obtain ⟨c7, iS7, hKn7⟩ := u_known (C := "NetJoins$Wire") (T := F_Wire) (N := 7) (n := 7) hWA i_Wire (hts _ (List.mem_append_right _ (List.mem_of_getElem? (i := 644) (by decide +kernel))))
  obtain ⟨c8, iS8, hKn8⟩ := u_known (C := "NetJoinsModel") (T := F_Mod) (N := 33) (n := 33) hWA i_Mod (hts _ (List.mem_append_right _ (List.mem_of_getElem? (i := 1130) (by decide +kernel))))
  obtain ⟨c9, iS9, hKn9⟩ := u_known (C := "java/util/ArrayList") (T := F_AL) (N := 3) (n := 3) hWA i_AL (hts _ (List.mem_append_right _ (List.mem_of_getElem? (i := 40) (by decide +kernel))))
  obtain ⟨ci, hi1, hi2⟩ := st_arr (ty := .int) (hts _ (List.mem_append_right _ (List.mem_of_getElem? (i := 84) (by decide +kernel))))
  obtain ⟨cz, hz1, hz2⟩ := st_arr (ty := .boolean) (hts _ (List.mem_append_right _ (List.mem_of_getElem? (i := 119) (by decide +kernel))))
  obtain ⟨cl, hl1, hl2⟩ := st_arr (ty := .long) (hts _ (List.mem_append_right _ (List.mem_of_getElem? (i := 1235) (by decide +kernel))))
  have hAO := hts (Cond.arrayOver (.object "java/lang/Object")) (List.mem_append_right _ (List.mem_of_getElem? (i := 596) (by decide +kernel)))
  obtain ⟨comp, co, ko, ho1, -, ho2, ho3, ho4⟩ := Cond.arrayOver_spec hAO
  have hAA : mAOA s := hts (Cond.arrayOver (.array .int)) (List.mem_append_right _ (List.mem_of_getElem? (i := 72) (by decide +kernel)))
  obtain ⟨cI, ca, ka, f1, f2, f3, f4⟩ := mAOA_spec hAA
  obtain ⟨mi, hmi⟩ := va_Mi.of (hfl (Cond.isRef (.mirror "[Ljava/lang/Object;")) (by decide +kernel))
  obtain ⟨t0, ht0, hT0⟩ := va_Tof (N := 0) (f := fun _ => .null) (A := fA hE s.heap.size) (by decide) (hfl (Cond.arrayOf (.static "java/util/ArrayList" "DEFAULTCAPACITY_EMPTY_ELEMENTDATA" "[Ljava/lang/Object;") (.object "java/lang/Object")) (by decide +kernel)) (va_eqt (z := 0) (hfl (Cond.eq (.length (.static "java/util/ArrayList" "DEFAULTCAPACITY_EMPTY_ELEMENTDATA" "[Ljava/lang/Object;")) (.int 0)) (by decide +kernel))) (fun j hj => absurd hj (Nat.not_lt_zero j)) hA
  obtain ⟨Z, eZ⟩ : ∃ Z : Nat → Nat, Z = fun n => if n = 0 then t0 else if n = 1 then mi else match (Term.string "NetJoins" n).eval #[Value.ref b] s none [] s with | some (.ref a) => a | _ => 0 := ⟨_, rfl⟩
  have hZ0 : Z 0 = t0 := by rw [eZ]; rfl
  have hZ1 : Z 1 = mi := by rw [eZ]; rfl
  have hS : ∀ (n : Nat) (tx : String), n ≠ 0 → n ≠ 1 → (Cond.stringRef "NetJoins" n tx).before #[Value.ref b] s = true → (Cond.exactly (.string "NetJoins" n) "java/lang/String").before #[Value.ref b] s = true → vk_R "NetJoins" n tx (Z n) s := by
    intro n tx h0 h1 hs hx
    obtain ⟨a2, c2, cA, kA, q1, -⟩ := Cond.exactly_spec hx
    refine vk_R.of hs ?_
    rw [eZ]
    simp only [h0, h1, if_false]
    rw [q1]
  refine ⟨(fun k => match k with | 0 => c0 | 1 => c1 | 2 => c2 | 3 => c3 | 4 => c4 | 5 => c5 | 6 => c6 | 7 => c7 | 8 => c8 | _ => c9, fun k => match k with | 0 => iS0 | 1 => iS1 | 2 => iS2 | 3 => iS3 | 4 => iS4 | 5 => iS5 | 6 => iS6 | 7 => iS7 | 8 => iS8 | _ => iS9), (ci, cz, cl, co, ca), Z, ⟨⟨?_, ?_⟩, va_AO.of hAO, by rw [hZ1]; exact hmi, va_Dc.of (hts _ (List.mem_append_right _ (List.mem_of_getElem? (i := 1423) (by decide +kernel)))), hAA, ?_, ?_, ?_, ?_⟩, ⟨⟨?_, by rw [hZ0]; exact hT0⟩, ⟨?_, ?_⟩, ?_, ?_⟩⟩
  · intro k q hq
    match k, hq with
    | 0, hq => cases hq; exact hKn0
    | 1, hq => cases hq; exact hKn1
    | 2, hq => cases hq; exact hKn2
    | 3, hq => cases hq; exact hKn3
    | 4, hq => cases hq; exact hKn4
    | 5, hq => cases hq; exact hKn5
    | 6, hq => cases hq; exact hKn6
    | 7, hq => cases hq; exact hKn7
    | 8, hq => cases hq; exact hKn8
    | 9, hq => cases hq; exact hKn9
    | k + 10, hq => simp [vcl] at hq
  · intro k q hq
    match k, hq with
    | 0, hq => cases hq; exact ⟨hi1, hi2⟩
    | 1, hq => cases hq; exact ⟨hz1, hz2⟩
    | 2, hq => cases hq; exact ⟨hl1, hl2⟩
    | 3, hq => cases hq; exact ⟨fun N z => ⟨(fun k h => by cases h), ko, ho2, comp, ho3⟩, ko, comp, ho2, ho3, ho1, ho4⟩
    | 4, hq => cases hq; exact ⟨fun N z => ⟨(fun k h => by cases h), ka, f2, cI, f3⟩, f4⟩
    | k + 5, hq => simp [mtys] at hq
  · exact List.forall_mem_cons.mpr ⟨va_Nw.of rfl (hts _ (List.mem_append_right _ (List.mem_of_getElem? (i := 1433) (by decide +kernel)))), List.forall_mem_cons.mpr ⟨va_Nw.of rfl (hts _ (List.mem_append_right _ (List.mem_of_getElem? (i := 1432) (by decide +kernel)))), List.forall_mem_cons.mpr ⟨va_Nw.of rfl (hts _ (List.mem_append_right _ (List.mem_of_getElem? (i := 1428) (by decide +kernel)))), List.forall_mem_cons.mpr ⟨va_Nw.of rfl (hts _ (List.mem_append_right _ (List.mem_of_getElem? (i := 1430) (by decide +kernel)))), List.forall_mem_cons.mpr ⟨va_Nw.of rfl (hts _ (List.mem_append_right _ (List.mem_of_getElem? (i := 1429) (by decide +kernel)))), List.forall_mem_cons.mpr ⟨va_Nw.of rfl (hts _ (List.mem_append_right _ (List.mem_of_getElem? (i := 430) (by decide +kernel)))), List.forall_mem_cons.mpr ⟨va_Nw.of rfl (hts _ (List.mem_append_right _ (List.mem_of_getElem? (i := 502) (by decide +kernel)))), List.forall_mem_cons.mpr ⟨va_Nw.of rfl (hts _ (List.mem_append_right _ (List.mem_of_getElem? (i := 629) (by decide +kernel)))), fun _ h => absurd h List.not_mem_nil⟩⟩⟩⟩⟩⟩⟩⟩
  · exact List.forall_mem_cons.mpr ⟨va_Nc.of (hfl (Cond.not (.castable "java/lang/IllegalStateException" "java/lang/IndexOutOfBoundsException")) (by decide +kernel)), List.forall_mem_cons.mpr ⟨va_Nc.of (hfl (Cond.not (.castable "java/lang/IllegalArgumentException" "java/lang/IndexOutOfBoundsException")) (by decide +kernel)), List.forall_mem_cons.mpr ⟨va_Nc.of (hfl (Cond.not (.castable "java/lang/IllegalArgumentException" "java/lang/IllegalStateException")) (by decide +kernel)), fun _ h => absurd h List.not_mem_nil⟩⟩⟩
  · exact List.forall_mem_cons.mpr ⟨va_Nw.of rfl (hts _ (List.mem_append_right _ (List.mem_of_getElem? (i := 432) (by decide +kernel)))), List.forall_mem_cons.mpr ⟨va_Nw.of rfl (hts _ (List.mem_append_right _ (List.mem_of_getElem? (i := 434) (by decide +kernel)))), List.forall_mem_cons.mpr ⟨va_Nw.of rfl (hts _ (List.mem_append_right _ (List.mem_of_getElem? (i := 436) (by decide +kernel)))), fun _ h => absurd h List.not_mem_nil⟩⟩⟩
  · exact List.forall_mem_cons.mpr ⟨hS 282 "no such sheet" (by decide) (by decide) (hts _ (List.mem_append_right _ (List.mem_of_getElem? (i := 469) (by decide +kernel)))) (hfl (Cond.exactly (.string "NetJoins" 282) "java/lang/String") (by decide +kernel)), List.forall_mem_cons.mpr ⟨hS 286 "the sheet is not drawn" (by decide) (by decide) (hts _ (List.mem_append_right _ (List.mem_of_getElem? (i := 509) (by decide +kernel)))) (hfl (Cond.exactly (.string "NetJoins" 286) "java/lang/String") (by decide +kernel)), List.forall_mem_cons.mpr ⟨hS 299 "no place" (by decide) (by decide) (hts _ (List.mem_append_right _ (List.mem_of_getElem? (i := 636) (by decide +kernel)))) (hfl (Cond.exactly (.string "NetJoins" 299) "java/lang/String") (by decide +kernel)), List.forall_mem_cons.mpr ⟨hS 112 "both ends of the wire are the same place" (by decide) (by decide) (hts _ (List.mem_append_right _ (List.mem_of_getElem? (i := 643) (by decide +kernel)))) (hfl (Cond.exactly (.string "NetJoins" 112) "java/lang/String") (by decide +kernel)), List.forall_mem_cons.mpr ⟨hS 301 "no name" (by decide) (by decide) (hts _ (List.mem_append_right _ (List.mem_of_getElem? (i := 735) (by decide +kernel)))) (hfl (Cond.exactly (.string "NetJoins" 301) "java/lang/String") (by decide +kernel)), List.forall_mem_cons.mpr ⟨hS 291 "no such label on the sheet" (by decide) (by decide) (hts _ (List.mem_append_right _ (List.mem_of_getElem? (i := 1008) (by decide +kernel)))) (hfl (Cond.exactly (.string "NetJoins" 291) "java/lang/String") (by decide +kernel)), List.forall_mem_cons.mpr ⟨hS 289 "the sheet has no parent" (by decide) (by decide) (hts _ (List.mem_append_right _ (List.mem_of_getElem? (i := 1013) (by decide +kernel)))) (hfl (Cond.exactly (.string "NetJoins" 289) "java/lang/String") (by decide +kernel)), List.forall_mem_cons.mpr ⟨hS 293 "no such pin" (by decide) (by decide) (hts _ (List.mem_append_right _ (List.mem_of_getElem? (i := 1088) (by decide +kernel)))) (hfl (Cond.exactly (.string "NetJoins" 293) "java/lang/String") (by decide +kernel)), List.forall_mem_cons.mpr ⟨hS 244 "no such copy" (by decide) (by decide) (hts _ (List.mem_append_right _ (List.mem_of_getElem? (i := 1089) (by decide +kernel)))) (hfl (Cond.exactly (.string "NetJoins" 244) "java/lang/String") (by decide +kernel)), List.forall_mem_cons.mpr ⟨hS 208 "no rank" (by decide) (by decide) (hts _ (List.mem_append_right _ (List.mem_of_getElem? (i := 1097) (by decide +kernel)))) (hfl (Cond.exactly (.string "NetJoins" 208) "java/lang/String") (by decide +kernel)), List.forall_mem_cons.mpr ⟨hS 252 "no such net" (by decide) (by decide) (hts _ (List.mem_append_right _ (List.mem_of_getElem? (i := 1105) (by decide +kernel)))) (hfl (Cond.exactly (.string "NetJoins" 252) "java/lang/String") (by decide +kernel)), List.forall_mem_cons.mpr ⟨hS 219 "no such wire" (by decide) (by decide) (hts _ (List.mem_append_right _ (List.mem_of_getElem? (i := 1117) (by decide +kernel)))) (hfl (Cond.exactly (.string "NetJoins" 219) "java/lang/String") (by decide +kernel)), fun _ h => absurd h List.not_mem_nil⟩⟩⟩⟩⟩⟩⟩⟩⟩⟩⟩⟩
  · rw [hZ0]
    exact va_Zref (hts _ (List.mem_append_right _ (List.mem_of_getElem? (i := 52) (by decide +kernel)))) (hts _ (List.mem_append_right _ (List.mem_of_getElem? (i := 4) (by decide +kernel)))) ht0 hA
  · exact va_Zqof (hts _ (List.mem_append_right _ (List.mem_of_getElem? (i := 455) (by decide +kernel)))) (hts _ (List.mem_append_right _ (List.mem_of_getElem? (i := 9) (by decide +kernel)))) (hfl (Cond.isRef (.static "java/lang/Throwable" "UNASSIGNED_STACK" "[Ljava/lang/StackTraceElement;")) (by decide +kernel)) hA
  · exact st_lay (hts _ (List.mem_append_right _ (List.mem_of_getElem? (i := 455) (by decide +kernel)))) hA
  · exact va_Zqof (hts _ (List.mem_append_right _ (List.mem_of_getElem? (i := 457) (by decide +kernel)))) (hts _ (List.mem_append_right _ (List.mem_of_getElem? (i := 9) (by decide +kernel)))) (hfl (Cond.isRef (.static "java/lang/Throwable" "SUPPRESSED_SENTINEL" "Ljava/util/List;")) (by decide +kernel)) hA
  · exact st_lay (hts _ (List.mem_append_right _ (List.mem_of_getElem? (i := 457) (by decide +kernel)))) hA
set_option maxHeartbeats 4000000 in
theorem whole_start (hp : PURE) {p : Program} {e : Env} {s : State} {m : MethodId} {below : List Frame} {meth : Method} {c : Code} (l : Launch) (hlT : l.stackTraces = false) {b L : Nat} {xs : Nat → Int32} (hL : L ≤ 5120) (C0 : lw_At p s m meth c b L xs) : W p l e room_1 s m #[Value.ref b] below meth c s.heap [] 0 0 (lw_Z below #[Value.ref b] s) (entryFrame m ([Value.ref b] : List Value).toArray 7) := by
  obtain ⟨hx, hb, hr, hml, hown, hts, hX, hbl, hlocks, hgv⟩ := id C0
  obtain ⟨D, cs, Z, hK, hZ⟩ := st_known hts hgv
  have hWA : ∀ w ∈ WA, w.before #[Value.ref b] s = true := fun w hw => hts w (List.mem_filter.mp hw).1
  have C : lC l D cs Z hE p s m meth c b L xs := ⟨hx, hb, hr, hml, hown, hWA, hlocks, hK, hZ, hX, hbl, hL, hlT, fun _ => rfl⟩
  obtain ⟨Inv, h1, h2⟩ := hp Z
  have hl := lv_entry ([.ref b]) (n := 7) (Nat.le_of_ble_eq_true rfl)
  rw [lg_entry_eq]
  generalize (lg_sl ([.ref b]) ++ List.replicate (7 - (lg_sl ([.ref b])).length) Slot.unset).toArray = ls at hl ⊢
  have hl : lv_has ls 7 [(0, va_rf (some b))] := hl
  refine ml_start C Inv (fun vx vm vo h H locs ls hI hl hR => ?_) hE s.heap [] ls h1 hl ⟨⟨[], fun a => by simp [hE, gT], fun k q hk => by simp [va_pl] at hk, ⟨fun i j p q hi => by simp [va_pl] at hi, fun k q hk => by simp [va_pl] at hk⟩⟩, va_S.rf⟩
  exact lw_loop C vx vm vo (Inv vx vm vo) (h2 vx vm vo) 512 0 _ _ h H locs ls (by omega) (by omega) (by decide) (by decide) hI (by rw [show (10 * 0 : Nat) = 0 from rfl, nI_0]; exact hl) hR
theorem st_traces {l : Launch} (h : l.flags = flags0) : l.stackTraces = false := by
  unfold Launch.stackTraces
  rw [h]
  decide +kernel
set_option maxHeartbeats 4000000 in
theorem lw_walk (hp : PURE) (l : Launch) (hlT : l.stackTraces = false) (b : Addr) (xs : List Int32) : MetFree l x (headSpec (Jvm.Cond.code x code maxLocals ret :: tables_1) room_1) (lw_P b xs) (fun _ _ _ _ _ => True) lw_Q := by
  refine MetFree.of_bodyS (code := code) (maxLocals := maxLocals) (ret := ret) (by decide) ?_ ?_
  · intro args s m h hn
    obtain ⟨meth, c, h1, h2, h3, h4, h5, h6, -, -⟩ := Cond.code_spec hn (atoms_spec (ws := Jvm.Cond.code x code maxLocals ret :: tables_1) h _ List.mem_cons_self)
    exact ⟨meth, c, h1, h2, h3, h4, h5, h6⟩
  · intro p e s m args below meth c s₁ B hml0 hP _
    obtain ⟨rfl, hx, hbd, hgv⟩ := hP
    obtain ⟨scr, harrAt, hlist, hof, hsmall⟩ := hx
    obtain ⟨hcb, hkn, -, -⟩ := State.arrayAt?_spec harrAt
    have hown : s.vm.findClass R_law = some m.cls := findClass_of_methodNamed B.named
    have hts0 : ∀ c ∈ (Jvm.Cond.code x code maxLocals ret :: tables_1), c.before #[Value.ref b] s = true := atoms_spec (ws := Jvm.Cond.code x code maxLocals ret :: tables_1) B.pre
    have hts : ∀ w ∈ lw_tbl, w.before #[Value.ref b] s = true := k2_hts_sels lw_privs (fun w hw => hts0 w (List.mem_cons_of_mem _ hw)) lw_privs_ok
    have hml : c.maxLocals = 7 := B.maxLocals_eq (hts0 _ List.mem_cons_self)
    have X₀ : Stand p l e room_1 s m #[Value.ref b] below meth c s₁ [] 0 0 := Stand.of_body B
    have hh0 : s₁.heap = s.heap := by rw [B.state]; rfl
    have hsz : scr.slots.size = xs.length := by rw [← Array.length_toList, hlist, List.length_map]
    have hval : ∀ j : Nat, j < xs.length → scr.slots[j]? = some (.int (xs.getD j 0)) := fun j hj => by
      rw [← Array.getElem?_toList, hlist]
      simp [hj]
    have hbl : b < s.heap.size := (Array.getElem?_eq_some_iff.mp hcb).1
    have hX : va_X b xs.length (fun j => xs.getD j 0) s s.heap := ⟨scr, hcb, hof, hkn, hsz, hval⟩
    have K : W p l e room_1 s m #[Value.ref b] below meth c s₁.heap [] 0 0 (lw_Z below #[Value.ref b] s) (entryFrame m ([Value.ref b] : List Value).toArray 7) := by
      rw [hh0]
      exact whole_start hp l hlT hbd ⟨B.exec, B.bytes, B.returns, hml, hown, hts, hX, hbl, B.notSynchronized, hgv⟩
    obtain ⟨t, a1, o, b1, b2, b3⟩ := K s₁ rfl X₀
    exact ⟨t, o, a1, b1, b2, b3⟩
theorem lw_pre_spec {args : Array Value} {s : State} (h : (Jvm.Cond.and given_1 narrow_1).before args s = true) (hr : rest_1_c.before args s = true) : ∃ (b : Addr) (xs : List Int32), lw_P b xs args s := by
  have hs := flat_of_before _ h
  have hq := flat_of_before _ hr
  have hc : (Cond.count 1).before args s = true := hs _ (by decide +kernel)
  have harr : (Cond.arrayOf (.arg 0) .int).before args s = true := hs _ (by decide +kernel)
  have hle : (Cond.le (.length (.arg 0)) (.int 5120)).before args s = true := hs _ (by decide +kernel)
  have hlen : (Cond.isInt (.length (.arg 0))).before args s = true := hq _ (by decide +kernel)
  have hall : (Cond.all (.arg 0) (.isInt (.elem (.arg 0) (.index 0)))).before args s = true := hq _ (by decide +kernel)
  obtain ⟨b, xs, hb, hx⟩ := State.ints_of_pre rfl harr hlen hall
  have hsm : xs.length < 2 ^ 31 := hx.choose_spec.2.2.2
  have hev : (Term.length (.arg 0)).eval args s none [] s = some (.int xs.length.toInt32) := hx.length_eval hb
  have hv := Cond.le_ints hev (show (Term.int 5120).eval args s none [] s = some (.int 5120) from rfl)
  have hd : xs.length.toInt32 ≤ 5120 := by
    simpa [Cond.before, Cond.holds, hv] using hle
  have hN : xs.length ≤ 5120 := (Int32.ofNat_le_ofNat hsm (by decide)).mp (show Int32.ofNat xs.length ≤ Int32.ofNat 5120 from hd)
  exact ⟨b, xs, Cond.one_arg hc (show args[0]? = some (.ref b) from hb), hx, hN, h⟩
theorem lw_comes (hp : PURE) (l : Launch) (hlT : l.stackTraces = false) : Comes l x (Jvm.Cond.code x code maxLocals ret :: tables_1) room_1 (fun tb e args s => Calls_1 tb e args s ∧ rest_1 tb e args s ∧ Pre_1 tb e args s)
    (fun _ _ args s o t => lw_Q args s o t) := by
  intro p e ha hc hk s m args below hf hfit hheap happ hpre
  obtain ⟨b, xs, hP⟩ := lw_pre_spec hpre.2.2 hpre.2.1
  obtain ⟨k, o, h1, h2, h3, hQ⟩ := lw_walk hp l hlT b xs p e ha hc hk s m args below hf ((Spec.applies_iff_loose hf).mp happ).1 hP trivial
  exact ⟨k, o, h1, h2, h3, hQ⟩
theorem lw_frame {s t : State} {o : Outcome} {args : Array Value} (h : Framed s o t [] room_1.cells room_1.slots) :
    Framed s o t (fieldLocs frame_1_writes args s ++ arrayLocs frame_1_arrays args s ++ staticLocs frame_1_statics s) room_1.cells room_1.slots := h
theorem lw_limb (hp : PURE) (L : Cond) (hL : ∀ (args : Array Value) (s t : State), L.after args s (.returned (some (.int 1))) t = true) :
    ArmFor flags0 classFile x code maxLocals ret World_1 tables_1 room_1 Calls_1 rest_1 Pre_1
      (fun tb e a s o t => postC L tb e a s o t ∧ Framed s o t (fieldLocs frame_1_writes a s ++ arrayLocs frame_1_arrays a s ++ staticLocs frame_1_statics s) room_1.cells room_1.slots) := by
  intro l hfl _ _ p e ha hc hk s m args below hf hfit hheap happ hpre
  obtain ⟨k, o, h1, h2, h3, rfl, hF⟩ := lw_comes hp l (st_traces hfl) p e ha hc hk s m args below hf hfit hheap happ hpre
  exact ⟨k, _, h1, h2, h3, hL args s _, lw_frame hF⟩
theorem whole_of (hp : PURE) : Claimed_1_1 ∧ Claimed_1_2 := ⟨lw_limb hp limb_1_1 (fun args s t => by simp [limb_1_1, Cond.after, Cond.holds, Cond.value]), lw_limb hp limb_1_2 (fun args s t => Cond.after_iff.mpr (by
  first | (rw [show limb_1_2 = Cond.eq .result (.int 1) from rfl, Cond.eq_ints (x := 1) (y := 1) rfl rfl]; simp; done) | (simp [limb_1_2, Cond.value, Term.eval]; done)))⟩
