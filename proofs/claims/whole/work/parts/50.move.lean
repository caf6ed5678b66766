/-! THE CLASS's HEAP MOVES: new things come, A and B grow; nothing that lives is lost -/
/-- the object's kind and references stay -/
def cvx (vx : Nat) (h h' : HS) : Prop := gT h' vx = gT h vx ∧ ∀ f, gR h' f vx = gR h f vx
theorem cvx.rf {vx : Nat} {h : HS} : cvx vx h h := ⟨rfl, fun _ => rfl⟩
theorem cvx.tr {vx : Nat} {h h' h'' : HS} (a : cvx vx h h') (b : cvx vx h' h'') : cvx vx h h'' := ⟨b.1.trans a.1, fun f => (b.2 f).trans (a.2 f)⟩
theorem cvx.of {vx : Nat} {h h' : HS} (c : ce h h' vx) : cvx vx h h' := ⟨c.T, fun f => by rw [c.R]⟩
theorem cvx.sI {vx f : Nat} {h : HS} {v : Int32} : cvx vx h (sI h f vx v) := ⟨by rw [gT_sI], fun g => by rw [gR_sI]⟩
/-- the cells of the roles from lo to hi stay, and their roles and addresses -/
def mv (lo hi : Nat) (A A' : Nat → Nat → Nat) (B B' : Nat → Nat × Nat) (h h' : HS) : Prop := (∀ a, lo ≤ (B a).1 → (B a).1 ≤ hi → gT h a ≠ 0 → ce h h' a ∧ B' a = B a) ∧ ∀ r i, lo ≤ r → r ≤ hi → A' r i = A r i
theorem mv.of {lo hi : Nat} {A : Nat → Nat → Nat} {B : Nat → Nat × Nat} {h h' : HS} (c : ∀ a, lo ≤ (B a).1 → (B a).1 ≤ hi → ce h h' a) : mv lo hi A A B B h h' := ⟨fun a h1 h2 _ => ⟨c a h1 h2, rfl⟩, fun _ _ _ _ => rfl⟩
theorem mv.sub {lo hi lo' hi' : Nat} {A A' : Nat → Nat → Nat} {B B' : Nat → Nat × Nat} {h h' : HS} (m : mv lo hi A A' B B' h h') (h1 : lo ≤ lo') (h2 : hi' ≤ hi) : mv lo' hi' A A' B B' h h' :=
  ⟨fun a g1 g2 g3 => m.1 a (by omega) (by omega) g3, fun r i g1 g2 => m.2 r i (by omega) (by omega)⟩
theorem mv.rf {lo hi : Nat} {A : Nat → Nat → Nat} {B : Nat → Nat × Nat} {h : HS} : mv lo hi A A B B h h := mv.of fun _ _ _ => ce_rf _ _
theorem mv.tr {lo hi : Nat} {A A' A'' : Nat → Nat → Nat} {B B' B'' : Nat → Nat × Nat} {h h' h'' : HS} (m : mv lo hi A A' B B' h h') (k : mv lo hi A' A'' B' B'' h' h'') : mv lo hi A A'' B B'' h h'' := by
  refine ⟨fun a h1 h2 h3 => ?_, fun r i h1 h2 => (k.2 r i h1 h2).trans (m.2 r i h1 h2)⟩
  obtain ⟨c, e⟩ := m.1 a h1 h2 h3
  obtain ⟨c', e'⟩ := k.1 a (by rw [e]; exact h1) (by rw [e]; exact h2) (by rw [c.T]; exact h3)
  exact ⟨ce_tr c c', e'.trans e⟩
/-- the lists' arrays live -/
def lv (A : Nat → Nat → Nat) (h : HS) : Prop := ∀ k, k < 8 → gT h (A 2 k) ≠ 0
/-- names' and remarks' arrays: 16 0 nameStart, 16 1 netNames, 16 2 remarks -/
def NA (vx : Nat) (A : Nat → Nat → Nat) (B : Nat → Nat × Nat) (h : HS) : Prop :=
  (gR h 12 vx = some (A 16 0) ∧ B (A 16 0) = (16, 0) ∧ gT h (A 16 0) = 1 ∧ gN h (A 16 0) = 961) ∧ (gR h 13 vx = some (A 16 1) ∧ B (A 16 1) = (16, 1) ∧ gT h (A 16 1) = 1 ∧ gN h (A 16 1) = 960) ∧ (gR h 15 vx = some (A 16 2) ∧ B (A 16 2) = (16, 2) ∧ gT h (A 16 2) = 1 ∧ gN h (A 16 2) = 1080)
section MOV
variable {Z : Nat → Nat} {vx : Nat} {A A' : Nat → Nat → Nat} {B B' : Nat → Nat × Nat} {h h' : HS} {d : DS}
theorem lsr_lt (r : Nat) : lsr r < 8 := by
  unfold lsr; repeat' split
  all_goals omega
theorem CD.l2 (C : CD Z vx A B h d) (V : lv A h) {k : Nat} (hk : k < 8) : 1 ≤ (B (A 2 k)).1 ∧ (B (A 2 k)).1 ≤ 2 ∧ gT h (A 2 k) ≠ 0 := by
  rcases (C.1.2.2 k hk).2.2.2 with z | z
  · rw [z]; exact ⟨by show 1 ≤ 2; decide, Nat.le_refl _, V k hk⟩
  · refine ⟨?_, ?_, V k hk⟩ <;> rw [z, (C.1.2.2 k hk).2.1]
    · exact Nat.le_refl _
    · show 1 ≤ 2; decide
theorem CD.go (C : CD Z vx A B h d) (V : lv A h) (v : cvx vx h h') (b : B' vx = (0, 0)) (m : mv 1 10 A A' B B' h h') : CD Z vx A' B' h' d ∧ lv A' h' := by
  have C0 := C
  obtain ⟨⟨c1, c2, c3⟩, c4, c5, c6, c7, c8, c9⟩ := C
  obtain ⟨m1, m2⟩ := m
  have l1 : ∀ k, k < 8 → ce h h' (A 1 k) ∧ B' (A 1 k) = B (A 1 k) := fun k hk => m1 _ (by rw [(c3 k hk).2.1]; exact Nat.le_refl _) (by rw [(c3 k hk).2.1]; show 1 ≤ 10; decide) (by rw [(c3 k hk).2.2.1]; decide)
  have l2 : ∀ k, k < 8 → ce h h' (A 2 k) ∧ B' (A 2 k) = B (A 2 k) := fun k hk => by
    obtain ⟨z1, z2, z3⟩ := C0.l2 V hk
    exact m1 _ z1 (by omega) z3
  have er := m1 (A 10 0) (by rw [c6]; show 1 ≤ 10; decide) (by rw [c6]; exact Nat.le_refl _) (by rw [c7]; decide)
  have e1 : ∀ k, A' 1 k = A 1 k := fun k => m2 1 k (by omega) (by omega)
  have e2 : ∀ k, A' 2 k = A 2 k := fun k => m2 2 k (by omega) (by omega)
  have e3 : ∀ r, 3 ≤ r → r ≤ 9 → A' r = A r := fun r h1 h2 => funext fun i => m2 r i (by omega) (by omega)
  refine ⟨⟨⟨by rw [v.1]; exact c1, b, fun k hk => ?_⟩, fun r h1 h2 => ?_, ?_⟩, fun k hk => ?_⟩
  · obtain ⟨q1, q2, q3, q4⟩ := c3 k hk
    rw [e1, e2, (l1 k hk).2, (l2 k hk).2]
    exact ⟨by rw [v.2]; exact q1, q2, by rw [(l1 k hk).1.T]; exact q3, q4⟩
  · obtain ⟨p1, p2⟩ := c4 r h1 h2
    have hk := lsr_lt r
    rw [e1, e2, e3 r h1 h2]
    refine ⟨p1.frame (l1 _ hk).1 (fun _ => (l2 _ hk).1), fun i hi => ?_⟩
    obtain ⟨o1, o2⟩ := p2 i hi
    have := m1 (A r i) (by rw [o2]; show 1 ≤ r; omega) (by rw [o2]; show r ≤ 10; omega) (fun z => by have := obj_T h1 h2 o1; rw [z] at this; rcases this with w | w | w | w | w <;> omega)
    exact ⟨obj_frame this.1 o1, by rw [this.2]; exact o2⟩
  · rw [m2 10 0 (by omega) (by omega)]
    exact ⟨by rw [v.2]; exact c5, by rw [er.2]; exact c6, by rw [er.1.T]; exact c7, by rw [er.1.N]; exact c8, fun n hn => by rw [er.1.A]; exact c9 n hn⟩
  · rw [e2, (l2 k hk).1.T]; exact V k hk
theorem TJ.go {lt : Nat → Nat} (T : TJ vx A B h lt) (v : cvx vx h h') (b : B' vx = (0, 0)) (m : mv 11 12 A A' B B' h h') : TJ vx A' B' h' lt := by
  obtain ⟨t1, ⟨t0, t2, t3, t4⟩, t5⟩ := T
  obtain ⟨m1, m2⟩ := m
  have a1 := m1 (A 11 0) (by rw [t2]; exact Nat.le_refl _) (by rw [t2]; show 11 ≤ 12; omega) (by rw [t5.1.1]; decide)
  have a2 := m1 (A 11 1) (by rw [t3]; exact Nat.le_refl _) (by rw [t3]; show 11 ≤ 12; omega) (by rw [t5.1.2.2.1]; decide)
  have a3 := m1 (A 12 0) (by rw [t4]; show 11 ≤ 12; omega) (by rw [t4]; exact Nat.le_refl _) (by rw [(t5.1.2.2.2.2.2.1 0 (by omega)).2.1]; decide)
  unfold TJ
  rw [show A' 12 = A 12 from funext fun i => m2 12 i (by omega) (by omega), m2 11 0 (by omega) (by omega), m2 11 1 (by omega) (by omega)]
  refine ⟨by rw [v.2]; exact t1, ⟨b, by rw [a1.2]; exact t2, by rw [a2.2]; exact t3, by rw [a3.2]; exact t4⟩, t5.frame fun a ha => ?_⟩
  rcases ha with rfl | rfl | ⟨r, hr, rfl⟩
  · exact a1.1
  · exact a2.1
  · rw [show r = 0 from by omega]; exact a3.1
theorem JJ.go {n : Nat} {lj : Nat → Nat} (T : JJ vx A B h n lj) (v : cvx vx h h') (b : B' vx = (0, 0)) (m : mv 13 14 A A' B B' h h') : JJ vx A' B' h' n lj := by
  obtain ⟨t1, ⟨t0, t2, t3, t4⟩, t5⟩ := T
  obtain ⟨m1, m2⟩ := m
  have a1 := m1 (A 13 0) (by rw [t2]; exact Nat.le_refl _) (by rw [t2]; show 13 ≤ 14; omega) (by rw [t5.1.1]; decide)
  have a2 := m1 (A 13 1) (by rw [t3]; exact Nat.le_refl _) (by rw [t3]; show 13 ≤ 14; omega) (by rw [t5.1.2.2.1]; decide)
  have a3 : ∀ r, r < 17 → ce h h' (A 14 r) ∧ B' (A 14 r) = B (A 14 r) := fun r hr => m1 (A 14 r) (by rw [t4 r hr]; show 13 ≤ 14; omega) (by rw [t4 r hr]; exact Nat.le_refl _) (by rw [(t5.1.2.2.2.2.2.1 r hr).2.1]; decide)
  unfold JJ
  rw [show A' 14 = A 14 from funext fun i => m2 14 i (by omega) (by omega), m2 13 0 (by omega) (by omega), m2 13 1 (by omega) (by omega)]
  refine ⟨by rw [v.2]; exact t1, ⟨b, by rw [a1.2]; exact t2, by rw [a2.2]; exact t3, fun r hr => by rw [(a3 r hr).2]; exact t4 r hr⟩, t5.frame fun a ha => ?_⟩
  rcases ha with rfl | rfl | ⟨r, hr, rfl⟩
  · exact a1.1
  · exact a2.1
  · exact (a3 r hr).1
theorem TS.lvT (T : TS vx A B h) {i : Nat} (hi : i < 6) : gT h (A 15 i) ≠ 0 := by
  obtain ⟨⟨t1, t2, t3⟩, t4, ⟨p1, p2, p3⟩, ⟨q1, q2, q3⟩, ⟨r1, r2, r3⟩, ⟨u1, u2, u3⟩, ⟨v1, v2, v3⟩⟩ := T
  have : i = 0 ∨ i = 1 ∨ i = 2 ∨ i = 3 ∨ i = 4 ∨ i = 5 := by omega
  rcases this with rfl | rfl | rfl | rfl | rfl | rfl <;> omega
theorem TS.go (T : TS vx A B h) (v : cvx vx h h') (b : B' vx = (0, 0)) (m : mv 15 15 A A' B B' h h') : TS vx A' B' h' ∧ (∀ i, i < 6 → ce h h' (A 15 i)) ∧ ∀ i, A' 15 i = A 15 i := by
  obtain ⟨m1, m2⟩ := m
  have ci : ∀ i, i < 6 → ce h h' (A 15 i) ∧ B' (A 15 i) = B (A 15 i) := fun i hi => m1 _ (by rw [T.1.2.2 i hi]; exact Nat.le_refl _) (by rw [T.1.2.2 i hi]; exact Nat.le_refl _) (T.lvT hi)
  have e : ∀ i, A' 15 i = A 15 i := fun i => m2 15 i (by omega) (by omega)
  refine ⟨?_, fun i hi => (ci i hi).1, e⟩
  obtain ⟨⟨t1, t2, t3⟩, t4, t5, t6, t7, t8, t9⟩ := T
  have c0 := (ci 0 (by omega)).1
  have c1 := (ci 1 (by omega)).1
  have c2 := (ci 2 (by omega)).1
  have c3 := (ci 3 (by omega)).1
  have c4 := (ci 4 (by omega)).1
  have c5 := (ci 5 (by omega)).1
  unfold TS
  simp only [e]
  refine ⟨⟨by rw [v.2]; exact t1, b, fun i hi => by rw [(ci i hi).2]; exact t3 i hi⟩, by rw [c0.T]; exact t4, ⟨by rw [c0.R]; exact t5.1, by rw [c1.T]; exact t5.2.1, by rw [c1.N]; exact t5.2.2⟩, ⟨by rw [c0.R]; exact t6.1, by rw [c2.T]; exact t6.2.1, by rw [c2.N]; exact t6.2.2⟩, ⟨by rw [c0.R]; exact t7.1, by rw [c3.T]; exact t7.2.1, by rw [c3.N]; exact t7.2.2⟩, ⟨by rw [c0.R]; exact t8.1, by rw [c4.T]; exact t8.2.1, by rw [c4.N]; exact t8.2.2⟩, ⟨by rw [c0.R]; exact t9.1, by rw [c5.T]; exact t9.2.1, by rw [c5.N]; exact t9.2.2⟩⟩
theorem NT.go {K : Nat} (N : NT d A h K) (c : ∀ i, i < 6 → ce h h' (A 15 i)) (e : ∀ i, A' 15 i = A 15 i) : NT d A' h' K := by
  have := N.frame c
  unfold NT TD at this ⊢
  simp only [e]
  exact this
theorem IC.go {n : Nat} {ch : Nat → Prop} (I : IC A h n ch) (c : ∀ i, i < 6 → ce h h' (A 15 i)) (e : ∀ i, A' 15 i = A 15 i) : IC A' h' n ch := by
  unfold IC at I ⊢
  rw [e, (c 5 (by omega)).A]
  exact I
theorem NA.go (N : NA vx A B h) (v : cvx vx h h') (m : mv 16 16 A A' B B' h h') : NA vx A' B' h' ∧ (∀ i, i < 3 → ce h h' (A 16 i)) ∧ ∀ i, A' 16 i = A 16 i := by
  obtain ⟨m1, m2⟩ := m
  obtain ⟨⟨a1, a2, a3, a4⟩, ⟨b1, b2, b3, b4⟩, ⟨c1, c2, c3, c4⟩⟩ := N
  have e : ∀ i, A' 16 i = A 16 i := fun i => m2 16 i (by omega) (by omega)
  have x0 := m1 (A 16 0) (by rw [a2]; exact Nat.le_refl _) (by rw [a2]; exact Nat.le_refl _) (by omega)
  have x1 := m1 (A 16 1) (by rw [b2]; exact Nat.le_refl _) (by rw [b2]; exact Nat.le_refl _) (by omega)
  have x2 := m1 (A 16 2) (by rw [c2]; exact Nat.le_refl _) (by rw [c2]; exact Nat.le_refl _) (by omega)
  refine ⟨?_, fun i hi => ?_, e⟩
  · unfold NA
    simp only [e]
    exact ⟨⟨by rw [v.2]; exact a1, by rw [x0.2]; exact a2, by rw [x0.1.T]; exact a3, by rw [x0.1.N]; exact a4⟩, ⟨by rw [v.2]; exact b1, by rw [x1.2]; exact b2, by rw [x1.1.T]; exact b3, by rw [x1.1.N]; exact b4⟩, ⟨by rw [v.2]; exact c1, by rw [x2.2]; exact c2, by rw [x2.1.T]; exact c3, by rw [x2.1.N]; exact c4⟩⟩
  · have : i = 0 ∨ i = 1 ∨ i = 2 := by omega
    rcases this with rfl | rfl | rfl
    · exact x0.1
    · exact x1.1
    · exact x2.1
theorem BN.go {m : Nat} {pm : Nat → Nat} (N : BN Z A h m pm) (C : CD Z vx A B h d) (V : lv A h) (mm : mv 1 10 A A' B B' h h') : BN Z A' h' m pm := by
  obtain ⟨m1, m2⟩ := mm
  obtain ⟨q1, q2, q3, q4⟩ := C.1.2.2 4 (by omega)
  obtain ⟨z1, z2, z3⟩ := C.l2 V (k := 4) (by omega)
  have x1 := m1 (A 1 4) (by rw [q2]; exact Nat.le_refl _) (by rw [q2]; show 1 ≤ 10; decide) (by omega)
  have x2 := m1 (A 2 4) z1 (by omega) z3
  unfold BN
  rw [m2 1 4 (by omega) (by omega), m2 2 4 (by omega) (by omega), show A' 6 = A 6 from funext fun i => m2 6 i (by omega) (by omega)]
  exact lL.frame N x1.1 fun _ => x2.1
end MOV
