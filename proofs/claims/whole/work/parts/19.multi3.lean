section MUX
variable {p : Program} {l : Launch} {e : Env} {R : Room} {s : State} {m : MethodId} {args : Array Value} {below : List Frame} {meth : Method} {c : Code} {H : Heap} {locs : List Loc} {cells slots : Nat} {Q : State → Prop}
variable {cc : ByteArray} {pc : Nat} {ls : Array Slot} {rest : List Value} {D : va_G} {cs : CS} {Z : Nat → Nat} {A : Nat → Prop} {h : HS}
theorem mx_mna (hx : p.tables.exec = Jvm.exec) (hb : c.code = cc) (hW : ∀ w ∈ WA, w.before args s = true) {own : String} {index : Nat} (hown : s.vm.findClass own = some m.cls) (hK : mK D cs Z s) (hR : mR D cs A h s.heap H locs) (hA : ∀ q, s.heap.size ≤ q → A q) (hcl : Cond.classLink own index "[[I" ∈ WA) (harr : Cond.arrayClass .int ∈ WA) {n : Int32} (hn : ¬ n < 0) (hB : n.toNatClampNeg ≤ 100) (hcells : cells + (1 + n.toNatClampNeg) ≤ R.cells) (hslots : slots + n.toNatClampNeg ≤ R.slots) (hdg : decode cc pc = .ok (.multianewarray index 2, 4))
    (kk : ∀ (q : Nat) (H1 : Heap) (locs1 : List Loc), (∀ j, j ≤ n.toNatClampNeg → gT h (q + j) = 0) → mR D cs A (mN h q n.toNatClampNeg n.toNatClampNeg) s.heap H1 locs1 → W p l e R s m args below meth c H1 locs1 (cells + 1 + n.toNatClampNeg) (slots + n.toNatClampNeg) Q (F0 m (pc + 4) ls (va_rf (some q) :: rest))) : W p l e R s m args below meth c H locs cells slots Q (F0 m pc ls (.int 0 :: .int n :: rest)) := by
  intro T hT X
  have hpl : e.platform.magicAccessors = ({} : Platform).magicAccessors := by rw [X.admits.platform]
  obtain ⟨cI, cA, kA, f1, f2, f3, f4⟩ := mAOA_spec hK.2.2.2.2.1
  obtain ⟨cI', kI, ct, g1, g2, g3⟩ := Cond.arrayClass_spec (hW _ harr)
  have eI : cI' = cI := Option.some.inj (g1.symm.trans f1)
  subst eI
  have e1 : cA = cs.2.2.2.2 := Option.some.inj (f4.symm.trans (hK.1.2 4 (cs.2.2.2.2, .array .int) rfl).2)
  have e2 : cI' = cs.1 := Option.some.inj (g1.symm.trans (hK.1.2 0 (cs.1, .int) rfl).2)
  subst e1 e2
  obtain ⟨c0, hfc0, hcl0⟩ := Cond.classLink_spec hown (hW _ hcl) e.platform hpl
  cases Option.some.inj (f4.symm.trans hfc0)
  obtain ⟨hg₁, hwarm₁, hready₁⟩ := State.classEntry (e := e) X.warmed hcl0
  generalize T.vm.noted m.cls index (.cls cs.2.2.2.2) = vm₁ at hg₁ hwarm₁ hready₁
  obtain ⟨kA₁, hkA₁, heA⟩ := hwarm₁.alike.2.2 _ _ f2
  obtain ⟨kI₁, hkI₁, heI⟩ := hwarm₁.alike.2.2 _ _ g2
  have X₁ := X.noted hwarm₁
  have XF := mF_stand X₁ cs.2.2.2.2 cs.1 n.toNatClampNeg n.toNatClampNeg
  obtain ⟨r1, r2⟩ := X.heapHas hcells hslots
  have hTh : (T.setVm vm₁).heap = H := hT
  obtain ⟨p1, p2, p3, -⟩ := mF_pure (N := n.toNatClampNeg) (S := T.setVm vm₁) (h := h) (by rw [hTh]; exact hR.1) (by rw [hTh]; exact fun q hq => hA q (Nat.le_trans hR.2.1 hq)) n.toNatClampNeg (Nat.le_refl _)
  rw [hTh] at p1 p2 p3
  have hF := mF_facts (T.setVm vm₁) cs.2.2.2.2 cs.1 n.toNatClampNeg n.toNatClampNeg
  rw [hTh] at hF
  have hR1 : mR D cs A (mN h H.size n.toNatClampNeg n.toNatClampNeg) s.heap (mF (T.setVm vm₁) cs.2.2.2.2 cs.1 n.toNatClampNeg n.toNatClampNeg).heap (locs ++ (List.range n.toNatClampNeg).map fun j => ⟨(T.setVm vm₁).heap.size, j⟩) := by
    refine ⟨p1, Nat.le_trans hR.2.1 (by rw [hF.1]; omega), fun q q1 q2 => (p3 q (Nat.lt_of_lt_of_le q1 hR.2.1)).trans (hR.2.2.1 q q1 q2), fun z hz => ?_⟩
    rcases List.mem_append.mp hz with w | w
    · exact hR.2.2.2 z w
    · obtain ⟨j, -, rfl⟩ := List.mem_map.mp w
      show A (T.setVm vm₁).heap.size
      rw [hTh]
      exact hA _ hR.2.1
  obtain ⟨t, a1, b1⟩ := kk H.size _ _ p2 hR1 _ rfl XF
  refine ⟨t, ?_, b1⟩
  have hl1 : ¬ n.toNatClampNeg > e.platform.arrayLengthLimit := by rw [Launch.admits_arrayLengthLimit X.admits]; omega
  have hl2 : ¬ n.toNatClampNeg * 4 > e.platform.maxHeapBytes := by rw [Launch.admits_maxHeapBytes X.admits]; omega
  have hdg' : decode c.code pc = .ok (.multianewarray index 2, 4) := by rw [hb]; exact hdg
  jvm_step X.here [hx, hdg']
  simp only [multianewarray.sem, wp_bind', W.resolveClassAt_links (State.method?_setTop (F0 m pc ls (.int 0 :: .int n :: rest)) X.here.top) hg₁]
  rw [W.popN, if_neg (by decide)]
  refine ⟨F0 m pc ls (.int 0 :: .int n :: rest), State.topJava?_setTop' (s := T.setVm vm₁) _ X.here.top, [.int n, .int 0], rest, rfl, rfl, ?_⟩
  simp only [List.mapM_cons, List.mapM_nil, wp_bind', wp_pure']
  refine wq_make (kA := kA₁) (kI := kI₁) hkA₁ (by rw [heA]; exact f3) hkI₁ (by rw [heI]; exact g3) hn hl1 hl2 (by show T.heap.size + 1 + _ ≤ _; omega) (by show T.slotsUsed + _ ≤ _; omega) (fun d' acts' => ?_)
  have eS : ((T.setTop (F0 m pc ls (.int 0 :: .int n :: rest))).setVm vm₁).setTop { F0 m pc ls (.int 0 :: .int n :: rest) with stack := rest } = (T.setVm vm₁).setTop { F0 m pc ls (.int 0 :: .int n :: rest) with stack := rest } := by
    show ((T.setVm vm₁).setTop _).setTop _ = _
    rw [State.setTop_setTop]
  rw [eS, mF_top]
  simp only [wp_bind', W.mark, W.pushRef, State.topJava?_setTop' _ XF.here.top, Option.some.injEq, exists_eq_left', State.setTop_setTop, State.heap_setTop]
  intro acts
  simp [jvm, XF.here.top]
  have hsz : T.heap.size = H.size := by rw [hT]
  first | exact a1 | (rw [hsz]; exact a1)
end MUX
