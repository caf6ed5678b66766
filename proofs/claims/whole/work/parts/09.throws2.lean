section MXU
variable {p : Program} {l : Launch} {e : Env} {R : Room} {s : State} {m : MethodId} {args : Array Value} {below : List Frame} {meth : Method} {c : Code} {H : Heap} {locs : List Loc} {cells slots : Nat} {Q : State → Prop}
variable {cc : ByteArray} {pc : Nat} {ls : Array Slot} {rest : List Value} {D : va_G} {cs : CS} {Z : Nat → Nat} {h h0 : HS} {px : Nat → HS → Prop} {Qc : Array Value → State → Outcome → State → Prop} {mc ms sz : Nat}
/-- a text is loaded, by a short or a wide index -/
theorem t_ldc {T : State} (X : Stand p l e R s m args below meth c T locs cells slots) (hx : p.tables.exec = Jvm.exec) {own text : String} {index n : Nat} {a : Addr} (hown : s.vm.findClass own = some m.cls) (hst : vk_R own index text a s) {g : JFrame} (hg : g.method = m) (hdg : (decode c.code g.pc = .ok (.ldc index, 2) ∧ n = 2) ∨ (decode c.code g.pc = .ok (.ldc_w index, 3) ∧ n = 3)) :
    ∀ target, Steps p.tables e below (T.setTop { g with pc := g.pc + n, stack := .ref a :: g.stack }) target → Steps p.tables e below (T.setTop g) target := by
  have h1 : (Cond.stringRef own index text).before args s = true := hst.1
  have h2 : (Term.string own index).eval args s none [] s = some (.ref a) := by
    exact hst.2
  rcases hdg with ⟨hdg, rfl⟩ | ⟨hdg, rfl⟩
  · exact X.ldcString hx hown h1 h2 hg hdg
  · obtain ⟨k, cf, i, a', hk, hcf, hcp, -, hr, hev⟩ := Cond.stringRef_spec hown h1
    cases h2.symm.trans hev
    obtain ⟨k', hk', he⟩ := X.warmed.alike.2.2 _ _ hk
    have hr' : k'.resolved[index]? = some (some (.string a)) := by
      rcases X.warmed.entry hk hk' index with h | ⟨h, -⟩
      · rw [h]; exact hr
      · rw [hr] at h; cases h
    intro target hrest
    subst hg
    jvm_step X.here [hx, hdg, ldc_w.wp_string (e := e) (s := T) (f := g) X.here.top hk' (by rw [he]; exact hcf) hcp hr']
    exact hrest
/-- throw new E("text") -/
theorem mx_throw {k ic ik is n4 : Nat} {tx : String} (hx : p.tables.exec = Jvm.exec) (hb : c.code = cc) (hlT : l.stackTraces = false) (hown : s.vm.findClass "NetJoins" = some m.cls) (hW : ∀ w ∈ WA, w.before args s = true) (hK : mK D cs Z s) (hZ : mZ Z (fA h0 s.heap.size) s s.heap) (hlocks : meth.locks = false) (hno : c.exceptionTable.isEmpty = true) (hml : ls.size = c.maxLocals) (hR : mR D cs (fA h0 s.heap.size) h s.heap H locs)
    (hat : ∀ w ∈ Bundle.ownAtoms "NetJoins" ic (exN k) tNames, w ∈ tables_1 ∧ goodWord w = true ∨ w ∈ tBad (exN k)) (hcast : (exN k, exN k) ∈ castP) (hfit : Bundle.fit (exN k) = true) (hk : Cond.classLink "NetJoins" ik (exN k) ∈ WA) (hini : Cond.initialized (exN k) ∈ WA) (hst : (is, tx) ∈ strP)
    (d0 : decode cc pc = .ok (.new ik, 3)) (d3 : decode cc (pc + 3) = .ok (.dup, 1)) (d4 : (decode cc (pc + 4) = .ok (.ldc is, 2) ∧ n4 = 2) ∨ (decode cc (pc + 4) = .ok (.ldc_w is, 3) ∧ n4 = 3)) (d6 : decode cc (pc + 4 + n4) = .ok (.invokespecial ic, 3)) (d9 : decode cc (pc + 4 + n4 + 3) = .ok (.athrow, 1))
    (hRf : 6 ≤ R.frames) (hRl : (rest.map fun v => v.category).sum + 100 ≤ R.locals) (hRc : cells + 1 ≤ R.cells) (hRs : slots + 6 ≤ R.slots) (hc : cells + 1 ≤ mc) (hs : slots + 6 ≤ ms) (hw : px k h) :
    W p l e R s m args below meth c H locs cells slots (tMQ D cs below Qc px h0 s.heap.size args s mc ms) (F0 m pc ls rest) := by
  intro T hT X
  have htr : e.platform.stackTraces = false := (show e.platform.stackTraces = l.stackTraces by rw [X.admits.platform]).trans hlT
  have Y := t_anew X (a := 1) (b := 6) hRc hRs
  obtain ⟨s', hs'⟩ : ∃ z, z = (T.setVm s.vm).setFrames (.invoking m args :: below) := ⟨_, rfl⟩
  rw [← hs'] at Y
  have hvm : s'.vm = s.vm := by rw [hs']; rfl
  have hhp : s'.heap = H := by rw [hs']; exact hT
  have hW0 : s.WarmedH s'.vm := by rw [hvm]; exact State.WarmedH.refl s
  have hWg : ∀ w ∈ WA, w.before args s' = true := fun w hw' => word_at hW0 (wa_good hw') (hW w hw')
  have hK' : mK D cs Z s' := hK.warm hW0
  have hTh : mTh (fA h0 s.heap.size) s' s'.heap := by rw [hhp]; exact (hZ.2.kept hR.2.2.1).moved hW0.alike
  have hat' : ∀ w ∈ Bundle.ownAtoms "NetJoins" ic (exN k) tNames, w.before args s' = true := by
    intro w hw'
    rcases hat w hw' with ⟨g1, g2⟩ | g
    · exact hWg w (List.mem_filter.mpr ⟨List.mem_append_right _ g1, g2⟩)
    · simp only [tBad, List.mem_cons, List.not_mem_nil, or_false] at g
      rcases g with rfl | rfl | rfl | rfl | rfl | rfl | rfl | rfl
      · exact va_Nw.use rfl (hK'.2.2.2.2.2.1 _ hcast)
      · exact va_Nw.use rfl (hK'.2.2.2.2.2.2.2.1 _ (by simp [declP]))
      · exact va_Nw.use rfl (hK'.2.2.2.2.2.2.2.1 _ (by simp [declP]))
      · exact va_Nw.use rfl (hK'.2.2.2.2.2.2.2.1 _ (by simp [declP]))
      · exact hTh.1.2.word
      · exact hTh.2.2.word
      · exact t_isRef hTh.1.1
      · exact t_isRef hTh.2.1
  have hown' : s'.vm.findClass "NetJoins" = some m.cls := by rw [hvm]; exact hown
  have hins : (Cond.instantiable (exN k) 6).before args s' = true := hat' _ (by simp [Bundle.ownAtoms])
  obtain ⟨vm₁, cX, kX, hfX, hkX, -, -, X₁, st1⟩ := Y.newCold hx (own := "NetJoins") (C := exN k) (index := ik) (n := 6) hown' (hWg _ hk) hins (hWg _ hini) (g := F0 m pc ls rest) rfl (by rw [hb]; exact d0) (Nat.le_refl _) (Nat.le_refl _)
  generalize hT1 : (T.setVm vm₁).pushCell { cls := cX, slots := kX.instanceTypes.map defaultValue, vm := .none } = T1 at X₁ st1
  have hcellA : T1.heap[T.heap.size]? = some (freshCell cX kX) := by rw [← hT1]; exact State.heap_pushCell_size _ _
  have d3' : decode c.code (pc + 3) = .ok (.dup, 1) := by rw [hb]; exact d3
  obtain ⟨U, hsteps, hrun, hend, hWU, hsame, ce, hce, hO⟩ := X₁.ctorThrowS hx htr (own := "NetJoins") (cls := exN k) (names := tNames) (ic := ic) hown' hfit (by decide) hat' (fun x hx => nomatch hx) hfX hkX hcellA (by rw [hhp, hT]; exact Nat.le_refl _) (msg := .ref (Z is)) rfl
    (g := F0 m (pc + 4 + n4) ls (.ref (Z is) :: .ref T.heap.size :: .ref T.heap.size :: rest)) rfl hml rfl rfl (rest := rest) rfl (by rw [hb]; exact d6) (by rw [hb]; exact d9)
    (fun x hx => by
      have z0 : c.exceptionTable = #[] := by simpa [Array.isEmpty_iff] using hno
      rw [z0] at hx
      cases hx) (by show 2 + 3 < R.frames; omega) (by simp only [List.map_cons, List.sum_cons, show (Value.ref T.heap.size).category = 1 from rfl]; show 2 * 0 + _ + (13 * 3 + 42) ≤ R.locals; omega) hlocks
  have hWs : s.WarmedH U.vm := State.WarmedH.trans hW0 hWU
  have keep : H.size ≤ U.heap.size ∧ ∀ q : Nat, q < H.size → U.heap[q]? = H[q]? := by
    obtain ⟨-, g2, -, -, -, g6⟩ := id hsame
    refine ⟨by rw [hhp] at g2; exact g2, fun q hq => ?_⟩
    have hq' : q < s'.heap.size := by rw [hhp]; exact hq
    obtain ⟨c9, k1, k2, k3, k4⟩ := g6 q _ (Array.getElem?_eq_getElem hq')
    have k0 : U.heap[q]? = some c9 := k1
    have e0 : H[q]? = some (s'.heap[q]) := by rw [← hhp]; exact Array.getElem?_eq_getElem hq'
    rw [k0, e0]
    have hsl : c9.slots = (s'.heap[q]).slots := Array.ext_getElem? fun i => k4 i (fun hm => nomatch hm)
    rw [hsl] at k2
    rw [k2]
  have hall : s.sameButNew ({ U with vm := s.vm } : State) locs mc ms := by
    subst hs'
    obtain ⟨e1, e2⟩ := hsame
    rw [State.setFrames_setFrames] at e1
    have q2 : (T.setVm s.vm).sameButNew ({ U with vm := s.vm } : State) [] (0 + 1) (0 + 6) := ⟨e1, e2⟩
    have q3 := X.same.trans q2
    rw [List.append_nil] at q3
    exact q3.mono hc hs
  refine ⟨U, ?_, .threw T.heap.size, hrun, hend, Or.inr ⟨T.heap.size, rfl, k, h, ce, locs, hw, ?_, ?_, ⟨hce, hO.vm, by have h9 := hO.cls; rw [hvm] at h9; exact h9⟩, hWs, hall, hR.2.2.2⟩⟩
  · refine st1 _ ?_
    show Steps p.tables e below (T1.setTop (F0 m (pc + 3) ls (.ref T.heap.size :: rest))) _
    jvm_step X₁.here [X₁.here.top, hx, d3', Value.category]
    exact t_ldc X₁ hx hown' (hK'.2.2.2.2.2.2.2.2 _ hst) (g := F0 m (pc + 4) ls (.ref T.heap.size :: .ref T.heap.size :: rest)) rfl (by rw [hb]; exact d4) _ hsteps
  · show mP D cs _ h U.heap
    obtain ⟨L, hL, hP, hD⟩ := hR.1
    exact ⟨L, hL, hP.kept (fun k9 q9 hk9 => keep.2 q9.1 ((hP k9 q9 hk9).lt)), hD⟩
  · exact ⟨Nat.le_trans hR.2.1 keep.1, fun q h1 h2 => (keep.2 q (Nat.lt_of_lt_of_le h1 hR.2.1)).trans (hR.2.2.1 q h1 h2)⟩
end MXU
