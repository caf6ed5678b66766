section MUW
variable {E : CtlPost} {e : Env} {d : Bool} {acts : List Action} {s : State}
theorem wq_new {c comp : ClassId} {k : Class} {type : FieldType} {len : Nat} {init : Value} (hk : s.vm.classes[c]? = some k) (hkind : k.kind = .array comp type) (hlimit : ¬ len > e.platform.arrayLengthLimit) (hheap : ¬ len * componentBytes type > e.platform.maxHeapBytes) (hfit : fits type init = true) (hdef : init.isDefault = true) {Q : Addr → Pre} (h1 : s.heap.size < e.platform.maxCells) (h2 : s.slotsUsed + len ≤ e.platform.maxSlots) (hq : Q s.heap.size d acts (s.pushCell (arrV c len (fun _ => init)))) : wp (Jvm.newArray c len init) Q E e d acts s := by
  have e0 : arrV c len (fun _ => init) = ({ cls := c, slots := Array.replicate len init, vm := .none } : Cell) := by
    unfold arrV
    congr 1
    apply Array.ext_getElem?
    intro i
    by_cases hi : i < len <;> simp [hi]
  rw [e0] at hq
  have hact : allocActs (Array.replicate len init) s.heap.size acts = acts := by
    unfold allocActs
    rw [if_pos (by rw [Array.all_replicate]; split <;> simp [hdef])]
  have hall : ∀ i v, (Array.replicate len init)[i]? = some v → s.fitsSlot c .none i v = true := fun i v hv => by
    rw [Array.getElem?_replicate] at hv
    split at hv
    · cases hv
      simp [State.fitsSlot, State.slotType?, hk, hkind, hfit]
    · cases hv
  simp only [Jvm.newArray, Jvm.arrayFits, wp_bind', W.ask, W.ite, hlimit, if_false, wp_pure', W.theClass, hk, hkind, hheap, W.alloc, W.stop, Option.some.injEq, exists_eq_left', Array.size_replicate, hact]
  rw [if_neg (by omega)]
  exact ⟨h1, h2, hall, hq⟩
/-- new int[n][0], as the machine makes it -/
theorem wq_make {cA cI cc : ClassId} {kA kI : Class} {n : Int32} (hkA : s.vm.classes[cA]? = some kA) (hA : kA.kind = .array cI (.array .int)) (hkI : s.vm.classes[cI]? = some kI) (hI : kI.kind = .array cc .int) (hn : ¬ n < 0) (hlimit : ¬ n.toNatClampNeg > e.platform.arrayLengthLimit) (hheap : ¬ n.toNatClampNeg * 4 > e.platform.maxHeapBytes) (h1 : s.heap.size + 1 + n.toNatClampNeg ≤ e.platform.maxCells) (h2 : s.slotsUsed + n.toNatClampNeg ≤ e.platform.maxSlots) {Q : Addr → Pre} (hq : ∀ d' acts', Q s.heap.size d' acts' (mF s cA cI n.toNatClampNeg n.toNatClampNeg)) : wp (multianewarray.make cA [n, 0]) Q E e d acts s := by
  have inner : ∀ (S : State) (d' : Bool) (acts' : List Action) (Q' : Addr → Pre), S.vm = s.vm → S.heap.size < e.platform.maxCells → S.slotsUsed ≤ e.platform.maxSlots → Q' S.heap.size d' acts' (S.pushCell (arrV cI 0 (fun _ => .int 0))) → wp (multianewarray.make cI [0]) Q' E e d' acts' S := by
    intro S d' acts' Q' hv z1 z2 hq'
    rw [multianewarray.make]
    simp only [wp_bind', W.ite, show ¬ ((0 : Int32) < 0) by decide, if_false, wp_pure', W.theClass, hv, hkI, hI, Option.some.injEq, exists_eq_left']
    exact wq_new (s := S) (by rw [hv]; exact hkI) hI (by simp) (by simp) rfl rfl z1 (by simpa using z2) hq'
  have hfind : ([(0 : Int32)].find? (· < 0)) = none := by simp
  rw [multianewarray.make]
  simp only [wp_bind', W.ite, hn, if_false, wp_pure', W.theClass, hkA, hA, Option.some.injEq, exists_eq_left']
  refine wq_new hkA hA hlimit hheap rfl rfl (by omega) h2 ?_
  simp only [hfind]
  rw [ite_self, wp_bind', Std.Legacy.Range.forIn_eq_forIn_range']
  have hsz : ([:n.toNatClampNeg] : Std.Legacy.Range).size = n.toNatClampNeg := by simp [Std.Legacy.Range.size]
  rw [hsz]
  have e0 : s.pushCell (arrV cA n.toNatClampNeg (fun _ => .null)) = mF s cA cI n.toNatClampNeg 0 := by
    simp [mF, mO, va_rf]
  rw [e0]
  show wp (forIn (List.range' 0 n.toNatClampNeg 1) PUnit.unit _) _ E e d acts _
  refine wp_forIn_inv (fun todo S => ∃ k, k + todo.length = n.toNatClampNeg ∧ todo = List.range' k todo.length ∧ S = mF s cA cI n.toNatClampNeg k) _ _ ⟨0, by simp, by simp, rfl⟩ ?_ ?_
  · rintro x rest S d' acts' Q' ⟨k, g1, g2, rfl⟩ next
    rw [List.length_cons] at g1
    have g3 : x = k ∧ rest = List.range' (k + 1) rest.length := by
      rw [List.length_cons, List.range'_succ] at g2
      exact ⟨(List.cons.inj g2).1, (List.cons.inj g2).2⟩
    obtain ⟨rfl, g4⟩ := g3
    obtain ⟨f1, f2, f3, f4⟩ := mF_facts s cA cI n.toNatClampNeg x
    have hlt : s.heap.size < (mF s cA cI n.toNatClampNeg x).heap.size := by omega
    simp only [wp_bind']
    refine inner _ _ _ _ f3 (by omega) (by omega) ?_
    simp only [wp_bind', W.writeLoc, wp_pure']
    refine ⟨_, by rw [State.heap_pushCell_of_lt (h := hlt)]; exact f2, by simp [arrV], by rw [arrV_size]; omega, ?_, next _ _ _ ⟨x + 1, by omega, g4, ?_⟩⟩
    · simp [State.fitsSlot, State.slotType?, f3, arrV, hkA, hA, fits]
    · rw [arrV_store, f1]
      show _ = ((mF s cA cI n.toNatClampNeg x).pushCell _).setCell _ _
      congr 2
      funext j
      rw [← mO_up]
      by_cases hj : j = x
      · subst hj; simp [updV, va_up, va_rf]
      · simp [updV, va_up, hj]
  · rintro S d' acts' ⟨k, g1, g2, rfl⟩
    simp only [List.length_nil, Nat.add_zero] at g1
    subst g1
    simp only [wp_pure']
    exact hq _ _
end MUW
