section KEEP
variable {Z : Nat → Nat} {vx : Nat} {A A' : Nat → Nat → Nat} {B B' : Nat → Nat × Nat} {h h' : HS} {d c : DS} {S U : Nat → Nat → Prop}
theorem XX.go (X : XX Z vx A B h d S U) (V : lv A h) (v : cvx vx h h') (b : B' vx = (0, 0)) (m : mv 1 14 A A' B B' h h') : XX Z vx A' B' h' d S U ∧ lv A' h' := by
  obtain ⟨C, ⟨lt, T, L⟩, lj, J, M⟩ := X
  obtain ⟨C', V'⟩ := C.go V v b (m.sub (by omega) (by omega))
  exact ⟨⟨C', ⟨lt, T.go v b (m.sub (by omega) (by omega)), L⟩, lj, J.go v b (m.sub (by omega) (by omega)), M⟩, V'⟩
/-- a flag of the object is written -/
theorem flag_ce {f : Nat} {v : Int32} (b : B vx = (0, 0)) {a : Nat} (ha : 1 ≤ (B a).1) : ce h (sI h f vx v) a := ce_sI fun e => by rw [e, b] at ha; exact absurd ha (by decide)
theorem flag_mv {f lo hi : Nat} {v : Int32} (b : B vx = (0, 0)) (h1 : 1 ≤ lo) : mv lo hi A A B B h (sI h f vx v) := mv.of fun a ha _ => flag_ce b (by omega)
theorem sp_keepUp {post : HS → Prop} (hc : WF c) (hd : WF d) (g : grows c d) (X : XX Z vx A B h d (TT d) (SC d)) (V : lv A h) (T : TS vx A B h) (N : NT c A h 960)
    (kk : ∀ h', XX Z vx A B h' d (TT d) (SC d) → lv A h' → TS vx A B h' → NT d A h' 960 → IC A h' (cnt d) (Chg c d) → gI h' 14 vx = 0 → gI h' 17 vx = 0 → cvx vx h h' → (∀ a, (B a).1 ≠ 14 → (B a).1 ≠ 15 → a ≠ vx → ce h h' a) → post h') : wp_NJ_keepUp Z post h vx := by
  have b := X.1.1.2.1
  have B15 : ∀ i, i < 6 → (B (A 15 i)).1 = 15 := fun i hi => by rw [T.1.2.2 i hi]
  have n15 : ∀ a, (B a).1 ≠ 15 → ∀ i, i < 6 → a ≠ A 15 i := fun a ha i hi e => ha (by rw [e]; exact B15 i hi)
  refine ⟨X.1.x, A 15 0, T.1.1, T.2.1, sp_remember hc T N fun h1 T1 N1 L1 s1 => ?_⟩
  have c1 : ∀ a, (B a).1 ≠ 15 → ce h h1 a := fun a ha => s1 a (n15 a ha 2 (by omega))
  have bv : (B vx).1 ≠ 15 ∧ (B vx).1 ≠ 14 := by rw [b]; exact ⟨by decide, by decide⟩
  obtain ⟨X1, V1⟩ := X.go V (cvx.of (c1 vx bv.1)) b (mv.of fun a h1 h2 => c1 a (by omega))
  refine ⟨X1.1.x, sp_countNets hd X1 T1 N1 g fun h2 X2 T2 N2 s2 => ?_⟩
  have c2 : ∀ a, (B a).1 ≠ 14 → (B a).1 ≠ 15 → ce h h2 a := fun a ha hb => ce_tr (c1 a hb) (s2 a ⟨ha, n15 a hb 0 (by omega), n15 a hb 1 (by omega), n15 a hb 3 (by omega), n15 a hb 4 (by omega)⟩)
  have L2 : LB c A h2 := by
    have e := (s2 (A 15 2) ⟨by rw [B15 2 (by omega)]; decide, T.ne (by omega) (by omega) (by omega), T.ne (by omega) (by omega) (by omega), T.ne (by omega) (by omega) (by omega), T.ne (by omega) (by omega) (by omega)⟩).A
    unfold LB
    rw [e]; exact L1
  have V2 : lv A h2 := fun k hk => by
    obtain ⟨z1, z2, z3⟩ := X.1.l2 V hk
    rw [(c2 (A 2 k) (by omega) (by omega)).T]; exact z3
  refine ⟨X2.1.x, A 15 0, T2.1.1, T2.2.1, sp_markChanges hc hd g T2 N2 L2 fun h3 T3 N3 I3 s3 => ?_⟩
  have c3 : ∀ a, (B a).1 ≠ 14 → (B a).1 ≠ 15 → ce h h3 a := fun a ha hb => ce_tr (c2 a ha hb) (s3 a (n15 a hb 5 (by omega)))
  obtain ⟨X3, V3⟩ := X2.go V2 (cvx.of (s3 vx (n15 vx bv.1 5 (by omega)))) b (mv.of fun a h1 h2 => s3 a (n15 a (by omega) 5 (by omega)))
  refine ⟨X3.1.x, Or.inl rfl, ?_⟩
  intro h4 e4
  have v4 : cvx vx h3 h4 := by rw [e4]; exact cvx.sI
  have m4 : ∀ lo hi, 1 ≤ lo → mv lo hi A A B B h3 h4 := fun lo hi w => by rw [e4]; exact flag_mv b w
  have c4 : ∀ a, a ≠ vx → ce h3 h4 a := fun a ha => by rw [e4]; exact ce_sI ha
  have f4 : gI h4 14 vx = 0 := by rw [e4, gI_sI, if_pos ⟨rfl, rfl⟩]
  clear e4
  obtain ⟨X4, V4⟩ := X3.go V3 v4 b (m4 1 14 (by omega))
  refine ⟨X4.1.x, Or.inl rfl, ?_⟩
  intro h5 e5
  have v5 : cvx vx h4 h5 := by rw [e5]; exact cvx.sI
  have m5 : ∀ lo hi, 1 ≤ lo → mv lo hi A A B B h4 h5 := fun lo hi w => by rw [e5]; exact flag_mv b w
  have f5 : gI h5 17 vx = 0 := by rw [e5, gI_sI, if_pos ⟨rfl, rfl⟩]
  have f6 : gI h5 14 vx = 0 := by rw [e5, gI_sI, if_neg (by omega)]; exact f4
  have c5 : ∀ a, a ≠ vx → ce h4 h5 a := fun a ha => by rw [e5]; exact ce_sI ha
  clear e5
  obtain ⟨X5, V5⟩ := X4.go V4 v5 b (m5 1 14 (by omega))
  have v35 := v4.tr v5
  have m35 : ∀ lo hi, 1 ≤ lo → mv lo hi A A B B h3 h5 := fun lo hi w => (m4 lo hi w).tr (m5 lo hi w)
  obtain ⟨T5, t5, t6⟩ := T3.go v35 b (m35 15 15 (by omega))
  refine kk h5 X5 V5 T5 (N3.go t5 t6) (I3.go t5 t6) f6 f5 ((cvx.of (c3 vx bv.2 bv.1)).tr v35) fun a ha hb hc => ?_
  exact ce_tr (c3 a ha hb) (ce_tr (c4 a hc) (c5 a hc))
end KEEP
