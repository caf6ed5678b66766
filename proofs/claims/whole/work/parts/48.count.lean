/-! THE TABLE IS MADE ANEW; WHAT HAS CHANGED -/
def LB (c : DS) (A : Nat → Nat → Nat) (h : HS) : Prop := (∀ k, vR c k → gA h (A 15 2) (ck c k) = nI (ck c (lst c k))) ∧ ∀ j, j < 960 → (∀ k, vR c k → j ≠ ck c k) → gA h (A 15 2) j = -1
/-- all but the rows of joined and the table's own cells -/
abbrev smC (A : Nat → Nat → Nat) (B : Nat → Nat × Nat) : HS → HS → Prop := sm (fun a => (B a).1 ≠ 14 ∧ a ≠ A 15 0 ∧ a ≠ A 15 1 ∧ a ≠ A 15 3 ∧ a ≠ A 15 4)
theorem nI_m1 {n : Nat} (h : n < 2 ^ 31) : ¬ nI n = -1 := fun e => by
  have h1 := nI_toInt h
  rw [e] at h1
  have h2 : (-1 : Int32).toInt = -1 := by decide
  omega
section CNT
variable {Z : Nat → Nat} {vx : Nat} {A : Nat → Nat → Nat} {B : Nat → Nat × Nat} {h : HS} {d c : DS} {U : Nat → Nat → Prop} {lt : Nat → Nat}
theorem vl_ck (hd : WF d) {k : Nat} (h : vR d k) : vl (jl (nS d)) 17 (ck d k) := by
  have b := (ck_lt hd h).1
  unfold vl
  rw [show ck d k / 2048 = 0 from by omega, show ck d k % 2048 = ck d k from by omega]
  exact ⟨by omega, by show ck d k < 1060; omega⟩
theorem nn_ck (hd : WF d) : ∀ k, vR d k → cn (fst d) k ≤ ck d k := by
  intro k
  induction k using Nat.strongRecOn with
  | ind k ih =>
    intro hk
    by_cases z : cn (fst d) k = 0
    · omega
    · obtain ⟨j, j1, j2, j3⟩ := cn_ex (P := fst d) (N := k) (k := cn (fst d) k - 1) (by omega)
      have h1 := ih j j1 j2.1
      have h2 := ck_mono hd j2.1 hk j1
      omega
theorem sp_remember {post : HS → Prop} (hc : WF c) (T : TS vx A B h) (N : NT c A h 960) (kk : ∀ h', TS vx A B h' → NT c A h' 960 → LB c A h' → sm (fun a => a ≠ A 15 2) h h' → post h') : wp_Tab_remember Z post h (A 15 0) := by
  obtain ⟨⟨t1, t2, t3⟩, t4, ⟨p1, p2, p3⟩, ⟨q1, q2, q3⟩, ⟨r1, r2, r3⟩, ⟨s1, s2, s3⟩, ⟨u1, u2, u3⟩⟩ := id T
  refine ⟨t4, t4, t4, A 15 1, p1, by omega, by omega, A 15 1, p1, p2, A 15 2, q1, q2, ?_⟩
  rw [p3, q3, jr_cl (by omega), show (0 : Int32).toNatClampNeg = 0 from rfl]
  refine ⟨by decide, by decide, by decide, by omega, by omega, ?_⟩
  intro h' e
  have s : sm (fun a => a ≠ A 15 2) h h' := by rw [e]; exact fun a ha => ce_wA ha
  have T' : TS vx A B h' := by
    rw [e]; unfold TS at T ⊢
    simp only [gR_wA, gT_wA, gN_wA]
    exact T
  have N' : NT c A h' 960 := by
    obtain ⟨le, nt, sz, V, ⟨d1, d2, d3, d4, d5⟩, w⟩ := N
    refine ⟨le, nt, sz, V, ⟨?_, ?_, ?_, ?_, ?_⟩, w⟩
    · rw [(s _ (T.ne (by omega) (by omega) (by omega))).A]; exact d1
    · rw [(s _ (T.ne (by omega) (by omega) (by omega))).A]; exact d2
    · rw [(s _ (T.ne (by omega) (by omega) (by omega))).A]; exact d3
    · rw [(s _ (T.ne (by omega) (by omega) (by omega))).I]; exact d4
    · rw [(s _ (T.ne (by omega) (by omega) (by omega))).I]; exact d5
  obtain ⟨le, nt, sz, V, ⟨d1, d2, d3, d4, d5⟩, w1, w2, w3, w4⟩ := N
  have eq : ∀ j, j < 960 → gA h' (A 15 2) j = le j := by
    intro j hj
    rw [e, gA_wA2, if_pos rfl, pk_cpy_in (by omega) (by omega), Nat.zero_add, Nat.sub_zero, d1]
  refine kk h' T' N' ⟨fun k hk => ?_, fun j hj nj => ?_⟩ s
  · rw [eq _ (ck_lt hc hk).1]; exact (w2 k (vR_lt hc hk) hk).1
  · rw [eq j hj]; exact w4 j hj nj
theorem sp_begin {post : HS → Prop} (T : TS vx A B h) (N : NT c A h 960) (g : grows c d) (kk : ∀ h', TS vx A B h' → NT d A h' 0 → smT A h h' → post h') : wp_Tab_begin Z post h (A 15 0) := by
  obtain ⟨⟨t1, t2, t3⟩, t4, ⟨p1, p2, p3⟩, ⟨q1, q2, q3⟩, ⟨r1, r2, r3⟩, ⟨s1, s2, s3⟩, ⟨u1, u2, u3⟩⟩ := id T
  refine ⟨t4, ?_⟩
  rw [s1]
  refine sp_fill s2 (by omega) fun h1 f1 f2 f3 f4 => ?_
  have c1 : ∀ i, i < 6 → i ≠ 4 → ce h h1 (A 15 i) := fun i hi ni => f4 _ (T.ne hi (by omega) ni)
  have T1 : TS vx A B h1 := by
    have cv := f4 vx (fun e => by rw [e, t3 4 (by omega)] at t2; cases t2)
    have c0 := c1 0 (by omega) (by omega)
    have ca := c1 1 (by omega) (by omega)
    have cb := c1 2 (by omega) (by omega)
    have cc := c1 3 (by omega) (by omega)
    have cd := c1 5 (by omega) (by omega)
    exact ⟨⟨by rw [cv.R]; exact t1, t2, t3⟩, by rw [c0.T]; exact t4, ⟨by rw [c0.R]; exact p1, by rw [ca.T]; exact p2, by rw [ca.N]; exact p3⟩, ⟨by rw [c0.R]; exact q1, by rw [cb.T]; exact q2, by rw [cb.N]; exact q3⟩, ⟨by rw [c0.R]; exact r1, by rw [cc.T]; exact r2, by rw [cc.N]; exact r3⟩, ⟨by rw [c0.R]; exact s1, f2, by rw [f3]; exact s3⟩, ⟨by rw [c0.R]; exact u1, by rw [cd.T]; exact u2, by rw [cd.N]; exact u3⟩⟩
  refine ⟨T1.2.1, ?_⟩
  intro h2 e2
  obtain ⟨le, nt, sz, V, ⟨d1, d2, d3, d4, d5⟩, w1, w2, w3, w4⟩ := N
  refine kk h2 (by rw [e2]; exact T1.sI) ⟨le, nt, gA h2 (A 15 4), V, ⟨?_, ?_, rfl, ?_, ?_⟩, w1, fun k hk => absurd hk (Nat.not_lt_zero _), fun n hn => ?_, fun j hj nj => ?_⟩ (sm_tr (fun a ha => f4 a ha.2.2.2) (by rw [e2]; exact fun a ha => ce_sI ha.1))
  · rw [e2, gA_sI, (c1 1 (by omega) (by omega)).A]; exact d1
  · rw [e2, gA_sI, (c1 3 (by omega) (by omega)).A]; exact d2
  · rw [e2, gI_sI, if_pos ⟨rfl, rfl⟩]; rfl
  · rw [e2, gI_sI, if_neg (by omega), (c1 0 (by omega) (by omega)).I]; exact d5
  · rw [e2, gA_sI, f1 n (by omega)]; rfl
  · refine w4 j hj fun k hk e => nj k (g k hk).1 (by rw [e]; exact (g k hk).2)
theorem sp_countNets {post : HS → Prop} (hd : WF d) (X : XX Z vx A B h d (TT d) (SC d)) (T : TS vx A B h) (N : NT c A h 960) (g : grows c d) (kk : ∀ h', XX Z vx A B h' d (TT d) (SC d) → TS vx A B h' → NT d A h' 960 → smC A B h h' → post h') : wp_NJ_countNets Z post h vx := by
  have hS := hd.1.1
  have h5 := hd.1.2.2.2.2.1
  obtain ⟨C0, ⟨lt, T0, Lt⟩, J0⟩ := X
  obtain ⟨lj, -, Lj⟩ := id J0
  have fr : ∀ g g' : HS, TS vx A B g → smT A g g' → XJ Z vx A B g d lt (SC d) → XJ Z vx A B g' d lt (SC d) := by
    intro g g' Tg s Xg
    refine Xg.frame fun a ha => s a ?_
    refine ⟨fun e => ?_, fun e => ?_, fun e => ?_, fun e => ?_⟩ <;> rw [e, Tg.1.2.2 _ (by omega)] at ha <;> exact absurd ha (by show ¬ 15 ≤ 14; omega)
  have toC : ∀ g g' : HS, smT A g g' → smC A B g g' := fun g g' s a ha => s a ha.2
  refine ⟨C0.x, A 15 0, T.1.1, T.2.1, sp_begin T N g fun h1 T1 N1 s1 => ?_⟩
  refine lp_inv (fun q => ∃ p, q.1 = nI p ∧ p ≤ nP d ∧ XJ Z vx A B q.2 d lt (SC d) ∧ TS vx A B q.2 ∧ NT d A q.2 (16 * p) ∧ smC A B h q.2) (fun q => nP d - q.1.toNatClampNeg) ?_ _ ⟨0, rfl, by omega, fr h h1 T s1 ⟨C0, T0, J0⟩, T1, N1, toC _ _ s1⟩
  rintro ⟨x1, h2⟩ K ⟨p, e1, hp, X2, T2, N2, s2⟩ hK
  dsimp only at e1 X2 T2 N2 s2
  subst e1
  have C := X2.1
  unfold wb_NJ_countNets_9
  dsimp only
  refine ⟨C.x, A 1 5, C.p (by omega), C.lT (by omega), sp_size C.pi (pk_le (nP d) p (fun z => ?_) (fun z => ⟨C.x, A 1 5, C.p (by omega), C.lT (by omega), sp_get C.pi z ?_⟩))⟩
  · refine kk h2 ⟨C, ⟨lt, X2.2.1, Lt⟩, X2.2.2⟩ T2 (N2.skip (by omega) fun k k1 k2 v => ?_) s2
    have := v.1
    omega
  obtain ⟨o1, o2, o3, o4, o5, o6, o7⟩ := C.P z
  have ps := hd.2.2.2.2.2.1 p z
  refine ⟨cst o1, A 7 p, rfl, o1, C.x, ?_⟩
  rw [o2]
  refine sp_copiesOf hd C ⟨ps.1, ps.2.1⟩ ?_
  have cpl : cps d (pSh d p) ≤ nS d := cn_up _ _
  refine lp_inv (fun q => ∃ cc, q.1 = nI p ∧ q.2.1 = nI (cps d (pSh d p)) ∧ q.2.2.1 = nI cc ∧ cc ≤ cps d (pSh d p) ∧ XJ Z vx A B q.2.2.2 d lt (SC d) ∧ TS vx A B q.2.2.2 ∧ (∃ t, t ≤ nS d ∧ cn (fun t => bas d t = pSh d p) t = cc ∧ NT d A q.2.2.2 (16 * p + t)) ∧ smC A B h q.2.2.2) (fun q => cps d (pSh d p) - q.2.2.1.toNatClampNeg) ?_ _ ⟨0, rfl, rfl, rfl, by omega, X2, T2, ⟨0, by omega, rfl, N2⟩, s2⟩
  rintro ⟨y1, y2, y3, h3⟩ K2 ⟨cc, f1, f2, f3, hc, X3, T3, ⟨t, ht, et, N3⟩, s3⟩ hK2
  dsimp only at f1 f2 f3 X3 T3 N3 s3
  subst f1 f2 f3
  unfold wb_NJ_countNets_41
  dsimp only
  refine pk_le (cps d (pSh d p)) cc (fun w => ?_) (fun w => ?_)
  · rintro y rfl
    refine hK _ ⟨p + 1, nI_1 p, by omega, X3, T3, N3.skip (by omega) fun k k1 k2 v => ?_, s3⟩ ?_
    · have v1 := v.2.1
      have v2 := v.2.2
      rw [show k / 16 = p from by omega] at v2
      have := cn_lt (P := fun t => bas d t = pSh d p) v1 v2
      have := cn_le (fun t => bas d t = pSh d p) (m := t) (n := k % 16) (by omega)
      have e : cps d (pSh d p) = cn (fun t => bas d t = pSh d p) (nS d) := rfl
      omega
    · dsimp only
      rw [nI_1, jr_cl (by omega), jr_cl (by omega)]; omega
  · obtain ⟨j, j1, j2, j3⟩ := cn_ex (P := fun t => bas d t = pSh d p) (N := nS d) (k := cc) w
    have tj : t ≤ j := Nat.le_of_not_lt fun z => by
      have := cn_lt (P := fun t => bas d t = pSh d p) z j2
      omega
    have v : vR d (16 * p + j) := by
      unfold vR
      rw [show (16 * p + j) / 16 = p from by omega, show (16 * p + j) % 16 = j from by omega]
      exact ⟨z, j1, j2⟩
    have ek : ck d (16 * p + j) = 16 * p + cc := by
      unfold ck cp
      rw [show (16 * p + j) / 16 = p from by omega, show (16 * p + j) % 16 = j from by omega, j2, j3]
    have N4 := N3.skip (L := 16 * p + j) (by omega) fun k k1 k2 u => by
      have v2 := u.2.2
      rw [show k / 16 = p from by omega] at v2
      have := cn_lt (P := fun t => bas d t = pSh d p) (m := k % 16) (n := j) (by omega) v2
      have := cn_le (fun t => bas d t = pSh d p) (m := t) (n := k % 16) (by omega)
      omega
    unfold wp_NJ_pinNode
    rw [show (16 : Int32) = nI 16 from rfl, pk_mul, nI_add, Nat.mul_comm p 16, ← ek]
    refine ⟨X3.1.x, X3.1.x, A 13 0, X3.up.1, X3.up.2, X3.jroot Lj (vl_ck hd v) fun h4 X4 s4 => ?_⟩
    have T4 : TS vx A B h4 := T3.frame fun a ha => s4 a (by intro z; omega)
    have N5 : NT d A h4 (16 * p + j) := N4.frame fun i hi => s4 _ (by show (B (A 15 i)).1 ≠ 14; rw [T3.1.2.2 i hi]; show 15 ≠ 14; omega)
    rw [root_ck hd Lt Lj v]
    refine ⟨A 15 0, T3.1.1, T4.2.1, NT.put hd T4 N5 v fun h5 T5 N6 s5 => ?_⟩
    rintro y rfl
    refine hK2 _ ⟨cc + 1, rfl, rfl, nI_1 cc, by omega, fr h4 h5 T4 s5 X4, T5, ⟨j + 1, by omega, by rw [cn_s (P := fun t => bas d t = pSh d p) j2, j3], N6⟩, sm_tr s3 (sm_tr (fun a ha => s4 a ha.1) (toC _ _ s5))⟩ ?_
    dsimp only
    rw [nI_1, jr_cl (by omega), jr_cl (by omega)]; omega
end CNT
