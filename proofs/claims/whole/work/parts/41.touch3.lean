/-! WHAT THE METHODS JOIN IS WHAT TOUCHES -/
/-- nothing that touches is lost -/
def ext (d e : DS) : Prop :=
  (nW d ≤ nW e ∧ ∀ w, w < nW d → wSh e w = wSh d w ∧ wDr e w = wDr d w ∧ wX e w = wX d w ∧ wY e w = wY d w ∧ wX2 e w = wX2 d w ∧ wY2 e w = wY2 d w) ∧
  (nJ d ≤ nJ e ∧ ∀ k, k < nJ d → jSh e k = jSh d k ∧ jX e k = jX d k ∧ jY e k = jY d k) ∧
  (nL d ≤ nL e ∧ ∀ l, l < nL d → lSh e l = lSh d l ∧ lX e l = lX d l ∧ lY e l = lY d l) ∧
  (nP d ≤ nP e ∧ ∀ p, p < nP d → pSh e p = pSh d p ∧ pX e p = pX d p ∧ pY e p = pY d p)
section T3A
variable {d e : DS}
theorem ext_thr (E : ext d e) {w : Nat} (hw : w < nW d) {x y : Int64} : thr e w x y ↔ thr d w x y := by
  obtain ⟨-, -, h1, h2, h3, h4⟩ := E.1.2 w hw
  unfold thr
  rw [h1, h2, h3, h4]
theorem ext_ali (E : ext d e) {w : Nat} (hw : w < nW d) : ali e w ↔ ali d w := by
  have h2 := (E.1.2 w hw).2.1
  have h1 := E.1.1
  constructor
  · intro z; exact ⟨hw, by rw [← h2]; exact z.2⟩
  · intro z; exact ⟨by omega, by rw [h2]; exact z.2⟩
theorem ext_hend (E : ext d e) {v w : Nat} (hv : v < nW d) (hw : w < nW d) : hend e v w ↔ hend d v w := by
  obtain ⟨-, -, h1, h2, h3, h4⟩ := E.1.2 w hw
  obtain ⟨-, -, g1, g2, g3, g4⟩ := E.1.2 v hv
  unfold hend
  rw [h1, h2, h3, h4, g1, g2, g3, g4]

theorem ext_isp (E : ext d e) {a : Nat} (ha : isp d a) : isp e a := by
  have h1 := E.2.2.1.1
  have h2 := E.2.2.2.1
  rcases ha with z | z
  · exact Or.inl (by omega)
  · exact Or.inr (by omega)
theorem ext_sp (E : ext d e) (hd : WF d) {a : Nat} (ha : isp d a) : sSh e a = sSh d a ∧ sX e a = sX d a ∧ sY e a = sY d a := by
  have h5 := hd.1.2.2.2.2.1
  unfold sSh sX sY
  by_cases z : a < 60
  · simp only [z, if_true]
    exact E.2.2.2.2 a (by rcases ha with w | w <;> omega)
  · simp only [z, if_false]
    exact E.2.2.1.2 (a - 60) (by rcases ha with w | w <;> omega)
theorem ext_TT (E : ext d e) (hd : WF d) {a b : Nat} (h : TT d a b) : TT e a b := by
  rcases h with ⟨v, w, h1, h2, h3, h4, rfl, rfl⟩ | ⟨v, w, k, h0, h1, h2, h3, h4, h5, h6, rfl, rfl⟩ | ⟨w, h1, hb, h3, h4, rfl⟩ | ⟨ha, hb, h3, h4, h5⟩
  · refine Or.inl ⟨v, w, (ext_ali E h1.1).mpr h1, (ext_ali E h2.1).mpr h2, ?_, (ext_hend E h1.1 h2.1).mpr h4, rfl, rfl⟩
    rw [(E.1.2 v h1.1).1, (E.1.2 w h2.1).1, h3]
  · obtain ⟨k1, k2, k3⟩ := E.2.1.2 k h0
    refine Or.inr (Or.inl ⟨v, w, k, Nat.lt_of_lt_of_le h0 E.2.1.1, (ext_ali E h1.1).mpr h1, (ext_ali E h2.1).mpr h2, ?_, ?_, ?_, ?_, rfl, rfl⟩)
    · rw [(E.1.2 v h1.1).1, k1, h3]
    · rw [(E.1.2 w h2.1).1, k1, h4]
    · rw [k2, k3]; exact (ext_thr E h1.1).mpr h5
    · rw [k2, k3]; exact (ext_thr E h2.1).mpr h6
  · obtain ⟨s1, s2, s3⟩ := ext_sp E hd hb
    refine Or.inr (Or.inr (Or.inl ⟨w, (ext_ali E h1.1).mpr h1, ext_isp E hb, ?_, ?_, rfl⟩))
    · rw [(E.1.2 w h1.1).1, s1, h3]
    · rw [s2, s3]; exact (ext_thr E h1.1).mpr h4
  · obtain ⟨s1, s2, s3⟩ := ext_sp E hd ha
    obtain ⟨t1, t2, t3⟩ := ext_sp E hd hb
    exact Or.inr (Or.inr (Or.inr ⟨ext_isp E ha, ext_isp E hb, by rw [s1, t1, h3], by rw [s2, t2, h4], by rw [s3, t3, h5]⟩))
theorem hend_sy {v w : Nat} (h : hend d v w) : hend d w v := by
  rcases h with ⟨h1, h2⟩ | ⟨h1, h2⟩ | ⟨h1, h2⟩ | ⟨h1, h2⟩
  · exact Or.inl ⟨h1.symm, h2.symm⟩
  · exact Or.inr (Or.inr (Or.inl ⟨h1.symm, h2.symm⟩))
  · exact Or.inr (Or.inl ⟨h1.symm, h2.symm⟩)
  · exact Or.inr (Or.inr (Or.inr ⟨h1.symm, h2.symm⟩))
/-- all wires through a junction come together -/
theorem Pju_all {T : Nat → Nat → Prop} {k : Nat} (hT : ∀ x y, Pju d k x y → T x y) {v w : Nat} (hv : thru d (jSh d k) (jX d k) (jY d k) v) (hw : thru d (jSh d k) (jX d k) (jY d k) w) : EG T (120 + v) (120 + w) := by
  obtain ⟨f, f1, f2⟩ := pk_least (fun j => thru d (jSh d k) (jX d k) (jY d k) j) ⟨v, hv⟩
  have go : ∀ i, thru d (jSh d k) (jX d k) (jY d k) i → EG T (120 + f) (120 + i) := fun i hi => EG.of (hT _ _ ⟨i, hi.1.1, hi, rfl, f, f1, f2, rfl⟩)
  exact (go v hv).sy.tr (go w hw)
theorem Pju_TT {k : Nat} (hk : k < nJ d) {x y : Nat} (h : Pju d k x y) : TT d x y := by
  obtain ⟨i, hi, h1, rfl, f, h2, -, rfl⟩ := h
  exact Or.inr (Or.inl ⟨f, i, k, hk, h2.1, h1.1, h2.2.1, h1.2.1, h2.2.2, h1.2.2, rfl, rfl⟩)
theorem PS_TT {a : Nat} (ha : isp d a) {x y : Nat} (h : PS d a x y) : TT d x y := by
  rcases h with ⟨i, hi, h1, rfl, rfl⟩ | ⟨i, hi, h1, rfl, rfl⟩ | ⟨i, hi, h1, rfl, rfl⟩
  · exact Or.inr (Or.inr (Or.inl ⟨i, h1.1, ha, h1.2.1, h1.2.2, rfl⟩))
  · exact Or.inr (Or.inr (Or.inr ⟨ha, Or.inr ⟨by omega, by omega⟩, h1.1.symm, h1.2.1.symm, h1.2.2.symm⟩))
  · exact Or.inr (Or.inr (Or.inr ⟨ha, Or.inl (by omega), h1.1.symm, h1.2.1.symm, h1.2.2.symm⟩))
theorem PS_sp {a b : Nat} (hb : isp d b) (h3 : sSh d b = sSh d a) (h4 : sX d b = sX d a) (h5 : sY d b = sY d a) : PS d a a b := by
  rcases hb with z | z
  · exact Or.inr (Or.inr ⟨b, z, ⟨by rw [Nat.zero_add]; exact h3, by rw [Nat.zero_add]; exact h4, by rw [Nat.zero_add]; exact h5⟩, rfl, by omega⟩)
  · refine Or.inr (Or.inl ⟨b - 60, by omega, ?_, rfl, by omega⟩)
    rw [show 60 + (b - 60) = b from by omega]; exact ⟨h3, h4, h5⟩
theorem TA_TT {x y : Nat} (h : TA d x y) : TT d x y := by
  rcases h with ((h | ⟨k, hk, h⟩) | ⟨l, hl, h⟩) | ⟨p, hp, h⟩
  · rcases h with h | ⟨w, hw, h1, i, hi, h2, h3, h4, rfl, rfl⟩
    · exact h.elim
    · exact Or.inl ⟨w, i, h1, h2, h3.symm, h4, rfl, rfl⟩
  · exact Pju_TT hk h
  · exact PS_TT (Or.inr ⟨by omega, by omega⟩) h
  · exact PS_TT (Or.inl hp) h
theorem TA_PS {a x y : Nat} (ha : isp d a) (h : PS d a x y) : TA d x y := by
  rcases ha with z | z
  · exact Or.inr ⟨a, z, h⟩
  · exact Or.inl (Or.inr ⟨a - 60, by omega, by show PS d (60 + (a - 60)) x y; rw [show 60 + (a - 60) = a from by omega]; exact h⟩)
theorem TT_TA {x y : Nat} (h : TT d x y) : EG (TA d) x y := by
  rcases h with ⟨v, w, h1, h2, h3, h4, rfl, rfl⟩ | ⟨v, w, k, h0, h1, h2, h3, h4, h5, h6, rfl, rfl⟩ | ⟨w, h1, hb, h3, h4, rfl⟩ | ⟨ha, hb, h3, h4, h5⟩
  · have go : ∀ v w, w < v → ali d v → ali d w → wSh d v = wSh d w → hend d v w → TA d (120 + v) (120 + w) := fun v w z h1 h2 h3 h4 => Or.inl (Or.inl (Or.inl (Or.inr ⟨v, h1.1, h1, w, z, h2, h3.symm, h4, rfl, rfl⟩)))
    rcases Nat.lt_trichotomy v w with z | z | z
    · exact (EG.of (go w v z h2 h1 h3.symm (hend_sy h4))).sy
    · subst z; exact EG.rf _
    · exact EG.of (go v w z h1 h2 h3 h4)
  · exact Pju_all (fun x y h => Or.inl (Or.inl (Or.inr ⟨k, h0, h⟩))) ⟨h1, h3, h5⟩ ⟨h2, h4, h6⟩
  · exact EG.of (TA_PS hb (Or.inl ⟨w, h1.1, ⟨h1, h3, h4⟩, rfl, rfl⟩))
  · exact EG.of (TA_PS ha (PS_sp hb h3.symm h4.symm h5.symm))
/-- a new wire -/
def PW (d : DS) (w x y : Nat) : Prop := (∃ i, i < w ∧ Pend d w i x y) ∨ (∃ k, k < nJ d ∧ Pjt d w k x y) ∨ (∃ i, i < nL d ∧ Pws d w 60 i x y) ∨ (∃ i, i < nP d ∧ Pws d w 0 i x y)
theorem wire_TT (E : ext d e) (hd : WF d) (he : WF e) (h1 : nW e = nW d + 1) (h2 : nJ e = nJ d) (h3 : nL e = nL d) (h4 : nP e = nP d) (h0 : wDr e (nW d) = 0) :
    (∀ x y, (TT d x y ∨ PW e (nW d) x y) → EG (TT e) x y) ∧ ∀ x y, TT e x y → EG (fun x y => TT d x y ∨ PW e (nW d) x y) x y := by
  have al : ali e (nW d) := ⟨by omega, h0⟩
  have isb : ∀ a, isp e a → isp d a := fun a ha => by rcases ha with z | z; exact Or.inl (by omega); exact Or.inr (by omega)
  constructor
  · rintro x y (h | h)
    · exact EG.of (ext_TT E hd h)
    · rcases h with ⟨i, hi, g1, g2, g3, rfl, rfl⟩ | ⟨k, hk, g1, g2⟩ | ⟨i, hi, g1, rfl, rfl⟩ | ⟨i, hi, g1, rfl, rfl⟩
      · exact EG.of (Or.inl ⟨nW d, i, al, g1, g2.symm, g3, rfl, rfl⟩)
      · exact EG.of (Pju_TT hk g2)
      · exact EG.of (Or.inr (Or.inr (Or.inl ⟨nW d, al, Or.inr ⟨by omega, by omega⟩, g1.2.1, g1.2.2, rfl⟩)))
      · exact EG.of (Or.inr (Or.inr (Or.inl ⟨nW d, al, Or.inl (by omega), g1.2.1, g1.2.2, rfl⟩)))
  · intro x y h
    have old : ∀ w, ali e w → w ≠ nW d → ali d w := fun w hw z => (ext_ali E (by have := hw.1; omega)).mp hw
    rcases h with ⟨v, w, g1, g2, g3, g4, rfl, rfl⟩ | ⟨v, w, k, g0, g1, g2, g3, g4, g5, g6, rfl, rfl⟩ | ⟨w, g1, hb, g3, g4, rfl⟩ | ⟨ha, hb, g3, g4, g5⟩
    · have go : ∀ w, w < nW d → ali e w → wSh e (nW d) = wSh e w → hend e (nW d) w → PW e (nW d) (120 + nW d) (120 + w) := fun w z a1 a2 a3 => Or.inl ⟨w, z, a1, a2.symm, a3, rfl, rfl⟩
      by_cases z1 : v = nW d <;> by_cases z2 : w = nW d
      · rw [z1, z2]; exact EG.rf _
      · rw [z1] at g3 g4 ⊢
        exact EG.of (Or.inr (go w (by have := g2.1; omega) g2 g3 g4))
      · rw [z2] at g3 g4 ⊢
        exact (EG.of (Or.inr (go v (by have := g1.1; omega) g1 g3.symm (hend_sy g4)))).sy
      · have a1 := old v g1 z1
        have a2 := old w g2 z2
        exact EG.of (Or.inl (Or.inl ⟨v, w, a1, a2, by rw [← (E.1.2 v a1.1).1, ← (E.1.2 w a2.1).1, g3], (ext_hend E a1.1 a2.1).mp g4, rfl, rfl⟩))
    · by_cases z : v ≠ nW d ∧ w ≠ nW d
      · have a1 := old v g1 z.1
        have a2 := old w g2 z.2
        obtain ⟨k1, k2, k3⟩ := E.2.1.2 k (by omega)
        refine EG.of (Or.inl (Or.inr (Or.inl ⟨v, w, k, by omega, a1, a2, by rw [← (E.1.2 v a1.1).1, ← k1, g3], by rw [← (E.1.2 w a2.1).1, ← k1, g4], ?_, ?_, rfl, rfl⟩)))
        · rw [← k2, ← k3]; exact (ext_thr E a1.1).mp g5
        · rw [← k2, ← k3]; exact (ext_thr E a2.1).mp g6
      · have tn : thru e (jSh e k) (jX e k) (jY e k) (nW d) := by
          by_cases z1 : v = nW d
          · rw [← z1]; exact ⟨g1, g3, g5⟩
          · by_cases z2 : w = nW d
            · rw [← z2]; exact ⟨g2, g4, g6⟩
            · exact absurd ⟨z1, z2⟩ z
        exact Pju_all (d := e) (k := k) (fun x y h => Or.inr (Or.inr (Or.inl ⟨k, g0, tn, h⟩))) ⟨g1, g3, g5⟩ ⟨g2, g4, g6⟩
    · by_cases z : w = nW d
      · rw [z] at g1 g3 g4 ⊢
        rcases hb with v | v
        · exact EG.of (Or.inr (Or.inr (Or.inr (Or.inr ⟨y, v, by rw [Nat.zero_add]; exact ⟨g1, g3, g4⟩, rfl, by omega⟩))))
        · exact EG.of (Or.inr (Or.inr (Or.inr (Or.inl ⟨y - 60, by omega, by rw [show 60 + (y - 60) = y from by omega]; exact ⟨g1, g3, g4⟩, rfl, by omega⟩))))
      · have a1 := old w g1 z
        obtain ⟨s1, s2, s3⟩ := ext_sp E hd (isb y hb)
        refine EG.of (Or.inl (Or.inr (Or.inr (Or.inl ⟨w, a1, isb y hb, by rw [← (E.1.2 w a1.1).1, ← s1, g3], ?_, rfl⟩))))
        rw [← s2, ← s3]; exact (ext_thr E a1.1).mp g4
    · obtain ⟨s1, s2, s3⟩ := ext_sp E hd (isb x ha)
      obtain ⟨t1, t2, t3⟩ := ext_sp E hd (isb y hb)
      exact EG.of (Or.inl (Or.inr (Or.inr (Or.inr ⟨isb x ha, isb y hb, by rw [← s1, ← t1, g3], by rw [← s2, ← t2, g4], by rw [← s3, ← t3, g5]⟩))))
/-- a new junction -/
theorem junc_TT (E : ext d e) (hd : WF d) (h1 : nW e = nW d) (h2 : nJ e = nJ d + 1) (h3 : nL e = nL d) (h4 : nP e = nP d) :
    (∀ x y, (TT d x y ∨ Pju e (nJ d) x y) → EG (TT e) x y) ∧ ∀ x y, TT e x y → EG (fun x y => TT d x y ∨ Pju e (nJ d) x y) x y := by
  have isb : ∀ a, isp e a → isp d a := fun a ha => by rcases ha with z | z; exact Or.inl (by omega); exact Or.inr (by omega)
  have old : ∀ w, ali e w → ali d w := fun w hw => (ext_ali E (by have := hw.1; omega)).mp hw
  constructor
  · rintro x y (h | h)
    · exact EG.of (ext_TT E hd h)
    · exact EG.of (Pju_TT (by omega) h)
  · intro x y h
    rcases h with ⟨v, w, g1, g2, g3, g4, rfl, rfl⟩ | ⟨v, w, k, g0, g1, g2, g3, g4, g5, g6, rfl, rfl⟩ | ⟨w, g1, hb, g3, g4, rfl⟩ | ⟨ha, hb, g3, g4, g5⟩
    · have a1 := old v g1
      have a2 := old w g2
      exact EG.of (Or.inl (Or.inl ⟨v, w, a1, a2, by rw [← (E.1.2 v a1.1).1, ← (E.1.2 w a2.1).1, g3], (ext_hend E a1.1 a2.1).mp g4, rfl, rfl⟩))
    · by_cases z : k = nJ d
      · subst z
        exact Pju_all (d := e) (k := nJ d) (fun x y h => Or.inr h) ⟨g1, g3, g5⟩ ⟨g2, g4, g6⟩
      · have a1 := old v g1
        have a2 := old w g2
        obtain ⟨k1, k2, k3⟩ := E.2.1.2 k (by omega)
        refine EG.of (Or.inl (Or.inr (Or.inl ⟨v, w, k, by omega, a1, a2, by rw [← (E.1.2 v a1.1).1, ← k1, g3], by rw [← (E.1.2 w a2.1).1, ← k1, g4], ?_, ?_, rfl, rfl⟩)))
        · rw [← k2, ← k3]; exact (ext_thr E a1.1).mp g5
        · rw [← k2, ← k3]; exact (ext_thr E a2.1).mp g6
    · have a1 := old w g1
      obtain ⟨s1, s2, s3⟩ := ext_sp E hd (isb y hb)
      refine EG.of (Or.inl (Or.inr (Or.inr (Or.inl ⟨w, a1, isb y hb, by rw [← (E.1.2 w a1.1).1, ← s1, g3], ?_, rfl⟩))))
      rw [← s2, ← s3]; exact (ext_thr E a1.1).mp g4
    · obtain ⟨s1, s2, s3⟩ := ext_sp E hd (isb x ha)
      obtain ⟨t1, t2, t3⟩ := ext_sp E hd (isb y hb)
      exact EG.of (Or.inl (Or.inr (Or.inr (Or.inr ⟨isb x ha, isb y hb, by rw [← s1, ← t1, g3], by rw [← s2, ← t2, g4], by rw [← s3, ← t3, g5]⟩))))
/-- a new spot -/
theorem spot_TT (E : ext d e) (hd : WF d) (h1 : nW e = nW d) (h2 : nJ e = nJ d) {a : Nat} (ha : isp e a) (hn : ∀ b, isp e b → b ≠ a → isp d b) :
    (∀ x y, (TT d x y ∨ PS e a x y) → EG (TT e) x y) ∧ ∀ x y, TT e x y → EG (fun x y => TT d x y ∨ PS e a x y) x y := by
  have old : ∀ w, ali e w → ali d w := fun w hw => (ext_ali E (by have := hw.1; omega)).mp hw
  constructor
  · rintro x y (h | h)
    · exact EG.of (ext_TT E hd h)
    · exact EG.of (PS_TT ha h)
  · intro x y h
    rcases h with ⟨v, w, g1, g2, g3, g4, rfl, rfl⟩ | ⟨v, w, k, g0, g1, g2, g3, g4, g5, g6, rfl, rfl⟩ | ⟨w, g1, hb, g3, g4, rfl⟩ | ⟨hx, hy, g3, g4, g5⟩
    · have a1 := old v g1
      have a2 := old w g2
      exact EG.of (Or.inl (Or.inl ⟨v, w, a1, a2, by rw [← (E.1.2 v a1.1).1, ← (E.1.2 w a2.1).1, g3], (ext_hend E a1.1 a2.1).mp g4, rfl, rfl⟩))
    · have a1 := old v g1
      have a2 := old w g2
      obtain ⟨k1, k2, k3⟩ := E.2.1.2 k (by omega)
      refine EG.of (Or.inl (Or.inr (Or.inl ⟨v, w, k, by omega, a1, a2, by rw [← (E.1.2 v a1.1).1, ← k1, g3], by rw [← (E.1.2 w a2.1).1, ← k1, g4], ?_, ?_, rfl, rfl⟩)))
      · rw [← k2, ← k3]; exact (ext_thr E a1.1).mp g5
      · rw [← k2, ← k3]; exact (ext_thr E a2.1).mp g6
    · by_cases z : y = a
      · subst z; exact EG.of (Or.inr (Or.inl ⟨w, g1.1, ⟨g1, g3, g4⟩, rfl, rfl⟩))
      · have a1 := old w g1
        have i := hn y hb z
        obtain ⟨s1, s2, s3⟩ := ext_sp E hd i
        refine EG.of (Or.inl (Or.inr (Or.inr (Or.inl ⟨w, a1, i, by rw [← (E.1.2 w a1.1).1, ← s1, g3], ?_, rfl⟩))))
        rw [← s2, ← s3]; exact (ext_thr E a1.1).mp g4
    · by_cases z1 : x = a
      · subst z1; exact EG.of (Or.inr (PS_sp hy g3.symm g4.symm g5.symm))
      · by_cases z2 : y = a
        · subst z2; exact (EG.of (Or.inr (PS_sp hx g3 g4 g5))).sy
        · have i := hn x hx z1
          have j := hn y hy z2
          obtain ⟨s1, s2, s3⟩ := ext_sp E hd i
          obtain ⟨t1, t2, t3⟩ := ext_sp E hd j
          exact EG.of (Or.inl (Or.inr (Or.inr (Or.inr ⟨i, j, by rw [← s1, ← t1, g3], by rw [← s2, ← t2, g4], by rw [← s3, ← t3, g5]⟩))))
end T3A
