/-! NAMES OF NETS -/
/-- the label l on the sheet t is in the net n -/
def inl (d : DS) (n l t : Nat) : Prop := l < nL d ∧ t < nS d ∧ lSh d l = bas d t ∧ ∃ k, vR d k ∧ nn d k = n ∧ EG (SR d) (rnd t (60 + l)) (2560 + k)
def hasNm (d : DS) (n m : Nat) : Prop := ∃ l t, inl d n l t ∧ lNm d l = m
theorem inl_u {d : DS} {n n' l t : Nat} (h : inl d n l t) (h' : inl d n' l t) : n = n' := by
  obtain ⟨-, -, -, k, k1, rfl, k3⟩ := h
  obtain ⟨-, -, -, j, j1, rfl, j3⟩ := h'
  exact (nn_eq k1 j1).mpr (k3.sy.tr j3)
theorem inl_lt {d : DS} (hd : WF d) {n l t : Nat} (h : inl d n l t) : n < cnt d := by
  obtain ⟨-, -, -, k, k1, rfl, k3⟩ := h
  exact (nn_lt hd k1).1
/-- the labels by their names: a permutation, rising -/
def PM (d : DS) (pm : Nat → Nat) : Prop := (∀ i, i < nL d → pm i < nL d) ∧ (∀ l, l < nL d → ∃ i, i < nL d ∧ pm i = l) ∧ ∀ i j, i < j → j < nL d → lNm d (pm i) ≤ lNm d (pm j)
def CB (Z : Nat → Nat) (vx : Nat) (A : Nat → Nat → Nat) (B : Nat → Nat × Nat) (h : HS) (d : DS) (pm : Nat → Nat) : Prop := XX Z vx A B h d (TT d) (SC d) ∧ lv A h ∧ TS vx A B h ∧ NT d A h 960 ∧ BN Z A h (nL d) pm ∧ NA vx A B h
/-- listed -/
def NL (d : DS) (A : Nat → Nat → Nat) (h : HS) : Prop := ∃ st : Nat → Nat, (∀ n, n ≤ cnt d → gA h (A 16 0) n = nI (st n)) ∧ (∀ n, n < cnt d → st n ≤ st (n + 1)) ∧ st (cnt d) ≤ 960 ∧ ∀ n, n < cnt d →
  (∀ q, st n ≤ q → q < st (n + 1) → ∃ m, m < 1000 ∧ gA h (A 16 1) q = nI m ∧ hasNm d n m) ∧ (∀ q q' m m', st n ≤ q → q ≤ q' → q' < st (n + 1) → m < 1000 → m' < 1000 → gA h (A 16 1) q = nI m → gA h (A 16 1) q' = nI m' → m ≤ m') ∧ ∀ m, hasNm d n m → ∃ q, st n ≤ q ∧ q < st (n + 1) ∧ gA h (A 16 1) q = nI m
/-- sums -/
def su (f : Nat → Nat) : Nat → Nat
  | 0 => 0
  | n + 1 => su f n + f n
theorem su_le (f : Nat → Nat) {m n : Nat} (h : m ≤ n) : su f m ≤ su f n := by
  induction n with
  | zero => rw [show m = 0 from by omega]; exact Nat.le_refl _
  | succ n ih =>
    by_cases e : m = n + 1
    · subst e; exact Nat.le_refl _
    · have := ih (by omega)
      show su f m ≤ su f n + f n
      omega
theorem su_one {P : Nat → Nat → Prop} {J : Nat} (u : ∀ m m', P m J → P m' J → m = m') (M : Nat) : su (fun m => cn (P m) (J + 1)) M ≤ su (fun m => cn (P m) J) M + 1 ∧ ((∀ m, m < M → ¬ P m J) → su (fun m => cn (P m) (J + 1)) M = su (fun m => cn (P m) J) M) := by
  induction M with
  | zero => exact ⟨by show 0 ≤ 0 + 1; omega, fun _ => rfl⟩
  | succ M ih =>
    show su _ M + cn (P M) (J + 1) ≤ su _ M + cn (P M) J + 1 ∧ (_ → su _ M + cn (P M) (J + 1) = su _ M + cn (P M) J)
    by_cases p : P M J
    · have := ih.2 fun m hm q => by have := u _ _ p q; omega
      rw [cn_s p, this]
      exact ⟨by omega, fun w => absurd p (w M (by omega))⟩
    · rw [cn_n p]
      refine ⟨by have := ih.1; omega, fun w => ?_⟩
      rw [ih.2 fun m hm => w m (by omega)]
theorem su_up {P : Nat → Nat → Prop} (u : ∀ j m m', P m j → P m' j → m = m') (M : Nat) : ∀ J, su (fun m => cn (P m) J) M ≤ J := by
  intro J
  induction J with
  | zero =>
    have : ∀ M, su (fun m => cn (P m) 0) M = 0 := by
      intro M
      induction M with
      | zero => rfl
      | succ M ih => show su _ M + 0 = 0; rw [ih]
    rw [this]; exact Nat.le_refl _
  | succ J ih => have := (su_one (u J) M).1; omega
section NAM
variable {Z : Nat → Nat} {vx : Nat} {A : Nat → Nat → Nat} {B : Nat → Nat × Nat} {h h' : HS} {d : DS} {pm : Nat → Nat}
theorem CB.bx (C : CB Z vx A B h d pm) : B vx = (0, 0) := C.1.1.1.2.1
theorem CB.go (C : CB Z vx A B h d pm) (v : cvx vx h h') (m : mv 1 16 A A B B h h') : CB Z vx A B h' d pm := by
  have b := C.bx
  obtain ⟨X, V, T, N, Q, R⟩ := C
  obtain ⟨X', V'⟩ := X.go V v b (m.sub (by omega) (by omega))
  obtain ⟨T', t1, t2⟩ := T.go v b (m.sub (by omega) (by omega))
  exact ⟨X', V', T', N.go t1 t2, Q.go X.1 V (m.sub (by omega) (by omega)), (R.go v (m.sub (by omega) (by omega))).1⟩
theorem CB.j (C : CB Z vx A B h d pm) (X' : XX Z vx A B h' d (TT d) (SC d)) (s : sm (fun a => (B a).1 ≠ 14) h h') : CB Z vx A B h' d pm := by
  have b := C.bx
  obtain ⟨X, V, T, N, Q, R⟩ := C
  have cv : cvx vx h h' := cvx.of (s vx (by show (B vx).1 ≠ 14; rw [b]; decide))
  have m : ∀ lo hi, (hi ≤ 13 ∨ 15 ≤ lo) → mv lo hi A A B B h h' := fun lo hi w => mv.of fun a h1 h2 => s a (by show (B a).1 ≠ 14; omega)
  obtain ⟨T', t1, t2⟩ := T.go cv b (m 15 15 (by omega))
  exact ⟨X', (X.1.go V cv b (m 1 10 (by omega))).2, T', N.go t1 t2, Q.go X.1 V (m 1 10 (by omega)), (R.go cv (m 16 16 (by omega))).1⟩
/-- an array of the names is written -/
theorem CB.w (C : CB Z vx A B h d pm) {i j : Nat} {v : Int32} (hi : i < 3) (e : h' = sA h (A 16 i) j v) : CB Z vx A B h' d pm ∧ cvx vx h h' := by
  have b := C.bx
  have B16 : B (A 16 i) = (16, i) := by
    obtain ⟨X, V, T, N, Q, ⟨a1, a2, a3, a4⟩, ⟨b1, b2, b3, b4⟩, ⟨c1, c2, c3, c4⟩⟩ := C
    have : i = 0 ∨ i = 1 ∨ i = 2 := by omega
    rcases this with rfl | rfl | rfl
    · exact a2
    · exact b2
    · exact c2
  have s : ∀ a, (B a).1 ≠ 16 → ce h h' a := fun a ha => by rw [e]; exact ce_sA fun w => ha (by rw [w, B16])
  obtain ⟨X, V, T, N, Q, R⟩ := C
  have cv : cvx vx h h' := cvx.of (s vx (by rw [b]; decide))
  have m : ∀ lo hi, hi ≤ 15 → mv lo hi A A B B h h' := fun lo hi w => mv.of fun a h1 h2 => s a (by omega)
  obtain ⟨X', V'⟩ := X.go V cv b (m 1 14 (by omega))
  obtain ⟨T', t1, t2⟩ := T.go cv b (m 15 15 (by omega))
  refine ⟨⟨X', V', T', N.go t1 t2, Q.go X.1 V (m 1 10 (by omega)), ?_⟩, cv⟩
  rw [e]
  unfold NA at R ⊢
  simp only [gR_sA, gT_sA, gN_sA]
  exact R
theorem CB.n16 (C : CB Z vx A B h d pm) {i j : Nat} (hi : i < 3) (hj : j < 3) (n : i ≠ j) : A 16 i ≠ A 16 j := by
  obtain ⟨X, V, T, N, Q, ⟨a1, a2, a3, a4⟩, ⟨b1, b2, b3, b4⟩, ⟨c1, c2, c3, c4⟩⟩ := C
  have key : ∀ i, i < 3 → B (A 16 i) = (16, i) := by
    intro i hi
    have : i = 0 ∨ i = 1 ∨ i = 2 := by omega
    rcases this with rfl | rfl | rfl
    · exact a2
    · exact b2
    · exact c2
  intro e
  have h1 := key i hi
  rw [e, key j hj] at h1
  exact n (Prod.mk.inj h1).2.symm
theorem sp_netOfLabel {post : Int32 → HS → Prop} (hd : WF d) (C : CB Z vx A B h d pm) {l t : Nat} (hl : l < nL d) (ht : t < nS d) (kk : ∀ h' r, CB Z vx A B h' d pm → sm (fun a => (B a).1 ≠ 14) h h' → ((r = -1 ∧ ∀ n, ¬ inl d n l t) ∨ ∃ n, r = nI n ∧ n < cnt d ∧ inl d n l t) → post r h') : wp_NJ_netOfLabel Z post h vx (some (A 6 l)) (some (A 3 t)) := by
  have hS := hd.1.1
  obtain ⟨X, V, T, N, Q, R⟩ := id C
  obtain ⟨D, ⟨lt, T0, Lt⟩, lj, J0, Lj⟩ := id X
  obtain ⟨o1, o2, o3, o4, o5, o6⟩ := D.S ht
  obtain ⟨p1, p2, p3, p4, p5, p6⟩ := D.L hl
  have bt := (hd.2.1 t ht).1
  have ls := hd.2.2.2.2.1 l hl
  refine ⟨A 3 t, rfl, o1, A 6 l, rfl, p1, ?_⟩
  rw [o4, p2]
  refine ⟨fun e => ?_, fun e => kk h _ C sm_rf (Or.inl ⟨rfl, fun n z => e (by rw [z.2.2.1])⟩)⟩
  have e' : lSh d l = bas d t := ((nI_eq (by omega) (by omega)).mp e).symm
  refine ⟨D.x, A 3 t, rfl, o1, A 6 l, rfl, p1, ?_⟩
  rw [o2, p5]
  refine sp_nameNode (by omega) ls.2.2 ?_
  have XJ0 : XJ Z vx A B h d lt (SC d) := ⟨D, T0, lj, J0, Lj⟩
  refine ⟨A 13 0, XJ0.up.1, XJ0.up.2, XJ0.jroot Lj (vl_nm ht hS ls.2.2) fun h1 X1 s1 => ?_⟩
  have C1 : CB Z vx A B h1 d pm := C.j ⟨X1.1, ⟨lt, X1.2.1, Lt⟩, X1.2.2⟩ s1
  have rb : lj (cnm t (lNm d l)) < 2 ^ 31 := by
    have := Lj.1 (cnm t (lNm d l))
    have : cnm t (lNm d l) < 2 ^ 31 := by unfold cnm; split <;> omega
    omega
  rcases label_net hd Lt Lj hl ht e' with ⟨q1, q2⟩ | ⟨k, q1, q2, q3⟩
  · refine pk_le 960 (lj (cnm t (lNm d l))) (fun _ => kk h1 _ C1 s1 (Or.inl ⟨rfl, fun n z => ?_⟩)) (fun z => by omega)
    obtain ⟨-, -, -, k, k1, -, k3⟩ := z
    exact q2 k k1 k3
  · have ckl := ck_lt hd q1.1
    obtain ⟨X1', V1, T1, N1, Q1, R1⟩ := id C1
    obtain ⟨le, nt, sz, W, ⟨d1, d2, d3, d4, d5⟩, w1, w2, w3, w4⟩ := N1
    obtain ⟨r1, r2, r3⟩ := T1.2.2.2.2.1
    rw [q2]
    refine pk_le 960 (ck d k) (fun z => by omega) (fun z => ⟨X1.1.x, A 15 0, T1.1.1, T1.2.1, A 15 3, r1, r2, by rw [r3]; exact pk_in (ck d k) _ ckl.1, ?_⟩)
    rw [jr_cl (by omega), d2, (w2 k (vR_lt hd q1.1) q1.1).2.1]
    exact kk h1 _ C1 s1 (Or.inr ⟨nn d k, rfl, (nn_lt hd q1.1).1, hl, ht, e', k, q1.1, rfl, q3⟩)
end NAM
