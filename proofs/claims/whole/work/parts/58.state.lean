/-! THE CLASS's STATE -/
def KS (Z : Nat → Nat) (vx : Nat) (A : Nat → Nat → Nat) (B : Nat → Nat × Nat) (h : HS) (d : DS) (ch : Nat → Prop) : Prop := WF d ∧ ((∀ w, nW d ≤ w → wDr d w = 0) ∧ ∀ p, nP d ≤ p → pOp d p = 0) ∧ (∃ pm, PM d pm ∧ CB Z vx A B h d pm) ∧ IC A h (cnt d) ch ∧ (¬ gI h 14 vx = 0 → NL d A h) ∧ (¬ gI h 17 vx = 0 → RL vx d A h 960120)
def Rst (Z : Nat → Nat) (vx : Nat) (A : Nat → Nat → Nat) (B : Nat → Nat × Nat) (h : HS) (c : DS) (m : Nat) (pm : Nat → Nat) : Prop := lv A h ∧ TS vx A B h ∧ NT c A h 960 ∧ BN Z A h m pm ∧ NA vx A B h
section KST
variable {Z : Nat → Nat} {vx : Nat} {A A' : Nat → Nat → Nat} {B B' : Nat → Nat × Nat} {h h' : HS} {d c : DS} {pm : Nat → Nat} {S U : Nat → Nat → Prop}
theorem Rst.s2 {m : Nat} (R : Rst Z vx A B h c m pm) (C : CD Z vx A B h d) (s : sm2 B h h') : Rst Z vx A B h' c m pm := by
  obtain ⟨V, T, N, Q, M⟩ := R
  have b := C.1.2.1
  have cv : cvx vx h h' := cvx.of (s vx (by show (B vx).1 ≠ 12 ∧ (B vx).1 ≠ 14; rw [b]; exact ⟨by decide, by decide⟩))
  have m : ∀ lo hi, (hi ≤ 11 ∨ 15 ≤ lo) → mv lo hi A A B B h h' := fun lo hi w => mv.of fun a h1 h2 => s a (by show (B a).1 ≠ 12 ∧ (B a).1 ≠ 14; omega)
  obtain ⟨T', t1, t2⟩ := T.go cv b (m 15 15 (by omega))
  exact ⟨(C.go V cv b (m 1 10 (by omega))).2, T', N.go t1 t2, Q.go C V (m 1 10 (by omega)), (M.go cv (m 16 16 (by omega))).1⟩
theorem mv.s2 {lo hi : Nat} (s : sm2 B h h') (hlo : 15 ≤ lo) : mv lo hi A A B B h h' := mv.of fun a h1 h2 => s a (by show (B a).1 ≠ 12 ∧ (B a).1 ≠ 14; omega)
theorem sm12_2 (s : sm12 B h h') : sm2 B h h' := sm_of s fun a ha => ha.1
theorem XX.xt (X : XX Z vx A B h d S U) : XT Z vx A B h d S := ⟨X.1, X.2.1⟩
theorem XX.of (X : XX Z vx A B h d S U) {S' : Nat → Nat → Prop} (T : XT Z vx A B h' d S') (s : sm12 B h h') : XX Z vx A B h' d S' U := by
  obtain ⟨C, -, lj, J, L⟩ := X
  exact ⟨T.1, T.2, lj, J.frame fun a ha => s a (by show (B a).1 ≠ 12; omega), L⟩
theorem KS_fin {post : HS → Prop} (hc : WF c) (hd : WF d) (z : (∀ w, nW d ≤ w → wDr d w = 0) ∧ ∀ p, nP d ≤ p → pOp d p = 0) (g : grows c d) (hp : PM d pm) (X : XX Z vx A B h d (TT d) (SC d)) (R : Rst Z vx A B h c (nL d) pm) (kk : ∀ h', KS Z vx A B h' d (Chg c d) → mv 20 100 A A B B h h' → post h') : wp_NJ_keepUp Z post h vx := by
  obtain ⟨V, T, N, Q, M⟩ := R
  have b := X.1.1.2.1
  refine sp_keepUp hc hd g X V T N fun h1 X1 V1 T1 N1 I1 f1 f2 v1 s1 => ?_
  have nv : ∀ a, 1 ≤ (B a).1 → a ≠ vx := fun a ha e => by rw [e, b] at ha; exact absurd ha (by decide)
  have m : ∀ lo hi, 1 ≤ lo → (hi ≤ 13 ∨ 16 ≤ lo) → mv lo hi A A B B h h1 := fun lo hi y w => mv.of fun a h1 h2 => s1 a (by omega) (by omega) (nv a (by omega))
  exact kk h1 ⟨hd, z, ⟨pm, hp, X1, V1, T1, N1, Q.go X.1 V (m 1 10 (by omega) (by omega)), (M.go v1 (m 16 16 (by omega) (by omega))).1⟩, I1, fun y => absurd f1 y, fun y => absurd f2 y⟩ (m 20 100 (by omega) (by omega))
theorem grows_of (h1 : nP c ≤ nP d) (h2 : nS c ≤ nS d) (h3 : ∀ p, p < nP c → pSh d p = pSh c p) (h4 : ∀ t, t < nS c → bas d t = bas c t) : grows c d := by
  intro k hk
  obtain ⟨k1, k2, k3⟩ := hk
  refine ⟨⟨by omega, by omega, by rw [h4 _ k2, h3 _ k1]; exact k3⟩, ?_⟩
  unfold ck
  rw [cp_same (fun s hs => (h4 s (by omega)).symm)]
/-- the end of a call: spread over the sheet's copies, kept up -/
theorem sp_over {post : HS → Prop} {s : Nat} (hc : WF c) (hd : WF d) (z : (∀ w, nW d ≤ w → wDr d w = 0) ∧ ∀ p, nP d ≤ p → pOp d p = 0) (E : ext c d) (b : sb c d) (N : news c d s) (hs : s < 2 ^ 31) (g : grows c d) (hp : PM d pm) (X : XX Z vx A B h d (TT d) (SC c)) (R : Rst Z vx A B h c (nL d) pm) (kk : ∀ h', KS Z vx A B h' d (Chg c d) → mv 20 100 A A B B h h' → post h') : wp_NJ_spreadOver Z (fun h31 => gT h31 vx = 16 ∧ wp_NJ_keepUp Z (fun h34 => post h34) h31 vx) h vx (nI s) := by
  obtain ⟨C, ⟨lt, T, L⟩, lj, J, M⟩ := X
  refine sp_spreadOver hd (fun a ha => ld_sp hd L ha) (U := SC c) ⟨C, T, lj, J, M⟩ hs fun h1 X1 s1 => ⟨X1.1.x, ?_⟩
  obtain ⟨o1, o2⟩ := over_new E b hc hd L N
  obtain ⟨C1, T1, J1⟩ := X1.mo o1 o2
  exact KS_fin hc hd z g hp ⟨C1, ⟨lt, T1, L⟩, J1⟩ (R.s2 C s1) fun h2 K2 m2 => kk h2 K2 ((mv.s2 s1 (by omega)).tr m2)
/-- after a thing was added -/
theorem Rst.ad {m : Nat} (C : CB Z vx A B h c pm) (hp : PM c pm) (hm : m = nL c) (v : cvx vx h h') (b : B' vx = (0, 0)) (m2 : mv 11 100 A A' B B' h h') (V : lv A' h') (Q : ∀ m pm, BN Z A h m pm → (∀ i, i < m → pm i < nL c) → BN Z A' h' m pm) : Rst Z vx A' B' h' c m pm := by
  obtain ⟨X, V0, T, N, Q0, M⟩ := C
  obtain ⟨T', t1, t2⟩ := T.go v b (m2.sub (by omega) (by omega))
  rw [hm]
  exact ⟨V, T', N.go t1 t2, Q _ _ Q0 hp.1, (M.go v (m2.sub (by omega) (by omega))).1⟩
theorem XX.ad (X : XX Z vx A B h c S U) (e : nS d = nS c) (v : cvx vx h h') (b : B' vx = (0, 0)) (m2 : mv 11 100 A A' B B' h h') (C : CD Z vx A' B' h' d) : XX Z vx A' B' h' d S U := by
  obtain ⟨-, ⟨lt, T, L⟩, lj, J, M⟩ := X
  exact ⟨C, ⟨lt, T.go v b (m2.sub (by omega) (by omega)), L⟩, lj, by rw [e]; exact J.go v b (m2.sub (by omega) (by omega)), M⟩
/-! what calls look at -/
theorem sp_needSheet {post : HS → Prop} {exc : Nat → HS → Prop} {x : Int32} (hd : WF d) (C : CD Z vx A B h d) (k0 : (∃ s, s < nS d ∧ x = nI s) → post h) (k1 : (¬ ∃ s, s < nS d ∧ x = nI s) → exc 1 h) : wp_NJ_needSheet Z post exc h vx x := by
  have hS := hd.1.1
  refine ⟨fun z => k1 fun ⟨s, s1, s2⟩ => nI_pos (n := s) (by omega) (by rw [← s2]; exact z), fun z => ⟨C.x, A 1 0, C.p (by omega), C.lT (by omega), sp_size C.sh ?_⟩⟩
  obtain ⟨s, s1, rfl⟩ := nI_of z
  refine pk_lt s (nS d) (fun w => k0 ⟨s, w, rfl⟩) (fun w => k1 fun ⟨t, t1, t2⟩ => ?_)
  rw [nI_eq (by omega) (by omega)] at t2; omega
theorem sp_needDrawn {post : HS → Prop} {exc : Nat → HS → Prop} {x : Int32} (hd : WF d) (C : CD Z vx A B h d) (k0 : (∃ s, drw d s ∧ x = nI s) → post h) (k1 : (¬ ∃ s, s < nS d ∧ x = nI s) → exc 1 h) (k2 : (∃ s, s < nS d ∧ bas d s ≠ s ∧ x = nI s) → exc 2 h) : wp_NJ_needDrawn Z post exc h vx x := by
  have hS := hd.1.1
  refine ⟨C.x, sp_needSheet hd C (fun ⟨s, s1, s2⟩ => ?_) k1⟩
  subst s2
  obtain ⟨o1, o2, o3, o4, o5, o6⟩ := C.S s1
  have bs := (hd.2.1 s s1).1
  refine ⟨C.x, A 1 0, C.p (by omega), C.lT (by omega), sp_get C.sh s1 ⟨cst o1, A 3 s, rfl, o1, ?_⟩⟩
  rw [o4]
  refine pk_eq (bas d s) s (fun e => k0 ⟨s, ⟨s1, e⟩, rfl⟩) (fun e => k2 ⟨s, s1, e, rfl⟩)
def plA (x y : Int64) : Prop := ((-1000000000 : Int64) ≤ x ∧ x ≤ (1000000000 : Int64)) ∧ ((-1000000000 : Int64) ≤ y ∧ y ≤ (1000000000 : Int64))
theorem sp_needPlace {post : HS → Prop} {exc : Nat → HS → Prop} {x y : Int64} (k0 : plA x y → post h) (k3 : ¬ plA x y → exc 3 h) : wp_NJ_needPlace Z post exc h x y := by
  unfold plA at k0 k3
  simp only [Int64.le_iff_toInt_le] at k0 k3
  refine ⟨fun z => k3 fun w => ?_, fun z => ⟨fun z1 => k3 fun w => ?_, fun z1 => ⟨fun z2 => k3 fun w => ?_, fun z2 => ⟨fun z3 => k0 ?_, fun z3 => k3 fun w => ?_⟩⟩⟩⟩
  · rw [lg_cmp_lt, Int64.lt_iff_toInt_lt] at z; omega
  · rw [lg_cmp_gt, Int64.lt_iff_toInt_lt] at z1; omega
  · rw [lg_cmp_lt, Int64.lt_iff_toInt_lt] at z2; omega
  · rw [lg_cmp_lt, Int64.lt_iff_toInt_lt] at z z2
    rw [lg_cmp_gt, Int64.lt_iff_toInt_lt] at z1
    rw [lg_cmp_le, Int64.le_iff_toInt_le] at z3
    omega
  · rw [lg_cmp_le, Int64.le_iff_toInt_le] at z3; omega
theorem sp_needName {post : HS → Prop} {exc : Nat → HS → Prop} {x : Int32} (k0 : (∃ n, n < 1000 ∧ x = nI n) → post h) (k3 : (¬ ∃ n, n < 1000 ∧ x = nI n) → exc 3 h) : wp_NJ_needName Z post exc h x := by
  refine ⟨fun z => k3 fun ⟨s, s1, s2⟩ => nI_pos (n := s) (by omega) (by rw [← s2]; exact z), fun z => ?_⟩
  obtain ⟨s, s1, rfl⟩ := nI_of z
  refine pk_lt s 1000 (fun w => k0 ⟨s, w, rfl⟩) (fun w => k3 fun ⟨t, t1, t2⟩ => ?_)
  rw [nI_eq (by omega) (by omega)] at t2; omega
end KST
