/-! THE BEST NAME; REMARKS -/
def BestOf (d : DS) (n m : Nat) : Prop := hasNm d n m ∧ ∀ m', hasNm d n m' → rnk d m' ≤ rnk d m ∧ (rnk d m' = rnk d m → m ≤ m')
theorem Best_u {d : DS} {n m m' : Nat} (h : BestOf d n m) (h' : BestOf d n m') : m = m' := by
  obtain ⟨a1, a2⟩ := h.2 m' h'.1
  obtain ⟨b1, b2⟩ := h'.2 m h.1
  have e : rnk d m' = rnk d m := by
    rw [Int32.le_iff_toInt_le] at a1 b1
    exact Int32.toInt_inj.mp (by omega)
  have := a2 e
  have := b2 e.symm
  omega
theorem hasNm_lt {d : DS} (hd : WF d) {n m : Nat} (h : hasNm d n m) : m < 1000 ∧ n < cnt d := by
  obtain ⟨l, t, i, rfl⟩ := h
  exact ⟨(hd.2.2.2.2.1 l i.1).2.2, inl_lt hd i⟩
def bare (d : DS) (l : Nat) : Prop := (∀ w, ali d w → wSh d w = lSh d l → ¬ thr d w (lX d l) (lY d l)) ∧ ∀ p, p < nP d → ¬ (pSh d p = lSh d l ∧ pX d p = lX d l ∧ pY d p = lY d l)
def joi (d : DS) (p : Nat) : Prop := ∃ k j, vR d k ∧ k / 16 = p ∧ vR d j ∧ j ≠ k ∧ nn d j = nn d k
/-- remarks by codes -/
def RP (d : DS) (j : Nat) : Prop := (j < 960000 ∧ j / 1000 < cnt d ∧ hasNm d (j / 1000) (j % 1000) ∧ ¬ BestOf d (j / 1000) (j % 1000)) ∨ (960000 ≤ j ∧ j < 960060 ∧ j - 960000 < nL d ∧ bare d (j - 960000)) ∨ (960060 ≤ j ∧ j < 960120 ∧ j - 960060 < nP d ∧ ¬ pOp d (j - 960060) = 0 ∧ joi d (j - 960060))
def rv (j : Nat) : Int32 := if j < 960000 then nI j else if j < 960060 then nI (100000000 + (j - 960000)) else nI (200000000 + (j - 960060))
def RL (vx : Nat) (d : DS) (A : Nat → Nat → Nat) (h : HS) (J : Nat) : Prop := gI h 16 vx = nI (cn (RP d) J) ∧ (∀ j, j < J → RP d j → gA h (A 16 2) (cn (RP d) j) = rv j) ∧ cn (RP d) J ≤ 1080
theorem cn_two {P : Nat → Prop} {N k : Nat} (hk : k < N) (p : P k) : 1 < cn P N ↔ ∃ j, j < N ∧ P j ∧ j ≠ k := by
  constructor
  · intro h
    refine Classical.byContradiction fun no => ?_
    have e : cn P N ≤ 1 := by
      have h1 : cn P N = cn P (k + 1) := cn_skip (by omega) fun j a b q => no ⟨j, b, q, by omega⟩
      have h2 : cn P k = cn P 0 := cn_skip (by omega) fun j a b q => no ⟨j, by omega, q, by omega⟩
      rw [h1, cn_s p, h2, cn_0]; exact Nat.le_refl _
    omega
  · rintro ⟨j, h1, h2, h3⟩
    rcases Nat.lt_or_ge j k with z | z
    · have a := cn_lt z h2
      have b := cn_lt hk p
      omega
    · have a := cn_lt (show k < j by omega) p
      have b := cn_lt h1 h2
      omega
section BST
variable {Z : Nat → Nat} {vx : Nat} {A : Nat → Nat → Nat} {B : Nat → Nat × Nat} {h h' : HS} {d : DS} {pm : Nat → Nat}
theorem CB.rk (C : CB Z vx A B h d pm) : gR h 8 vx = some (A 10 0) ∧ gT h (A 10 0) = 1 ∧ gN h (A 10 0) = 1000 ∧ ∀ n, n < 1000 → gA h (A 10 0) n = rnk d n := by
  obtain ⟨-, -, c5, c6, c7, c8, c9⟩ := C.1.1
  exact ⟨c5, c7, c8, c9⟩
theorem sp_bestName {post : Int32 → HS → Prop} {n : Nat} (hd : WF d) (C : CB Z vx A B h d pm) (L : NL d A h) (hn : n < cnt d) (kk : ∀ r, ((r = -1 ∧ ∀ m, ¬ hasNm d n m) ∨ ∃ m, m < 1000 ∧ r = nI m ∧ BestOf d n m) → post r h) : wp_NJ_bestName Z post h vx (nI n) := by
  have c9 : cnt d ≤ 960 := cn_up _ _
  obtain ⟨st, l1, l2, l3, l4⟩ := L
  obtain ⟨q1, q2, q3⟩ := l4 n hn
  have mo : ∀ i, i ≤ cnt d → st (n + 1) ≤ 960 := by
    have : ∀ i, n + 1 ≤ i → i ≤ cnt d → st (n + 1) ≤ st i := by
      intro i h1
      induction i with
      | zero => omega
      | succ i ih =>
        intro h2
        by_cases e : n = i
        · rw [e]; exact Nat.le_refl _
        · have := ih (by omega) (by omega)
          have := l2 i (by omega)
          omega
    intro _ _
    have := this (cnt d) (by omega) (by omega)
    omega
  have s9 := mo 0 (by omega)
  have s1 := l2 n hn
  obtain ⟨⟨a1, a2, a3, a4⟩, ⟨b1, b2, b3, b4⟩, -⟩ := id C.2.2.2.2.2
  obtain ⟨r1, r2, r3, r4⟩ := C.rk
  have D := C.1.1
  refine ⟨D.x, A 16 0, a1, a3, by rw [a4]; exact pk_in n _ (by omega), ?_⟩
  rintro y rfl
  rw [jr_cl (by omega), l1 n (by omega)]
  refine lp_inv (fun q => ∃ i, q.1 = nI n ∧ q.2.2.1 = nI i ∧ st n ≤ i ∧ i ≤ st (n + 1) ∧ q.2.2.2 = h ∧ ((q.2.1 = -1 ∧ i = st n) ∨ ∃ m, m < 1000 ∧ q.2.1 = nI m ∧ (∃ p, st n ≤ p ∧ p < i ∧ gA h (A 16 1) p = nI m) ∧ hasNm d n m ∧ ∀ p m', st n ≤ p → p < i → m' < 1000 → gA h (A 16 1) p = nI m' → rnk d m' ≤ rnk d m ∧ (rnk d m' = rnk d m → m ≤ m'))) (fun q => st (n + 1) - q.2.2.1.toNatClampNeg) ?_ _ ⟨st n, rfl, rfl, by omega, by omega, rfl, Or.inl ⟨rfl, rfl⟩⟩
  rintro ⟨x1, x2, x3, h1⟩ K ⟨i, e1, e3, i1, i2, e4, o⟩ hK
  dsimp only at e1 e3 e4 o
  subst e1 e3 e4
  have next : ∀ y, i < st (n + 1) → (∃ m, m < 1000 ∧ y = nI m ∧ (∃ p, st n ≤ p ∧ p < i + 1 ∧ gA h1 (A 16 1) p = nI m) ∧ hasNm d n m ∧ ∀ p m', st n ≤ p → p < i + 1 → m' < 1000 → gA h1 (A 16 1) p = nI m' → rnk d m' ≤ rnk d m ∧ (rnk d m' = rnk d m → m ≤ m')) → wj_NJ_bestName_53 Z post K vx (nI n) y (nI i) h1 := by
    intro y hi o
    rintro z rfl
    refine hK _ ⟨i + 1, rfl, nI_1 i, by omega, by omega, rfl, Or.inr o⟩ ?_
    dsimp only
    rw [nI_1, jr_cl (by omega), jr_cl (by omega)]; omega
  unfold wb_NJ_bestName_9
  dsimp only
  rw [nI_1, jr_cl (by omega)]
  refine ⟨D.x, A 16 0, a1, a3, by rw [a4]; exact pk_in (n + 1) _ (by omega), ?_⟩
  rw [l1 (n + 1) (by omega)]
  refine pk_le (st (n + 1)) i (fun z => kk x2 ?_) (fun z => ?_)
  · rcases o with ⟨o1, o2⟩ | ⟨m, m1, o1, o2, o3, o4⟩
    · left
      refine ⟨o1, fun m hm => ?_⟩
      obtain ⟨q, u1, u2, u3⟩ := q3 m hm
      omega
    · right
      refine ⟨m, m1, o1, o3, fun m' hm' => ?_⟩
      obtain ⟨q, u1, u2, u3⟩ := q3 m' hm'
      exact o4 q m' u1 (by omega) (hasNm_lt hd hm').1 u3
  obtain ⟨m1, u1, u2, u3⟩ := q1 i i1 z
  -- the new one is the best
  have newb : (∀ p m', st n ≤ p → p < i → m' < 1000 → gA h1 (A 16 1) p = nI m' → rnk d m' ≤ rnk d m1 ∧ (rnk d m' = rnk d m1 → m1 ≤ m')) → wj_NJ_bestName_46 Z post K vx (nI n) (nI i) h1 := by
    intro w
    refine ⟨D.x, A 16 1, b1, b3, by rw [b4]; exact pk_in i _ (by omega), ?_⟩
    rintro y rfl
    rw [jr_cl (by omega), u2]
    refine next _ z ⟨m1, u1, rfl, ⟨i, i1, by omega, u2⟩, u3, fun p m' p1 p2 p3 p4 => ?_⟩
    by_cases y : p = i
    · subst y
      rw [u2, nI_eq (by omega) (by omega)] at p4
      subst p4
      exact ⟨Int32.le_refl _, fun _ => Nat.le_refl _⟩
    · exact w p m' p1 (by omega) p3 p4
  rcases o with ⟨o1, o2⟩ | ⟨m, m2, o1, o2, o3, o4⟩
  · rw [o1]
    exact br_t rfl (newb fun p m' p1 p2 => by omega)
  · rw [o1]
    refine br_f (nI_m1 (by omega)) ⟨D.x, D.x, A 16 1, b1, b3, by rw [b4]; exact pk_in i _ (by omega), A 10 0, r1, r2, ?_⟩
    rw [jr_cl (by omega), u2, jr_cl (by omega), jr_cl (by omega), r3]
    refine ⟨pk_in m1 _ (by omega), D.x, A 10 0, r1, r2, by rw [r3]; exact pk_in m _ (by omega), ?_⟩
    rw [r4 m1 u1, r4 m m2]
    obtain ⟨p, p1, p2, p3⟩ := o2
    have mm := q2 p i m m1 p1 (by omega) z m2 u1 p3 u2
    refine ⟨fun w => next _ z ⟨m, m2, rfl, ⟨p, p1, by omega, p3⟩, o3, fun q m' y1 y2 y3 y4 => ?_⟩, fun w => newb fun q m' y1 y2 y3 y4 => ?_⟩
    · by_cases y : q = i
      · subst y
        rw [u2, nI_eq (by omega) (by omega)] at y4
        subst y4
        exact ⟨w, fun _ => mm⟩
      · exact o4 q m' y1 (by omega) y3 y4
    · obtain ⟨v1, v2⟩ := o4 q m' y1 y2 y3 y4
      rw [Int32.le_iff_toInt_le] at w v1
      refine ⟨by rw [Int32.le_iff_toInt_le]; omega, fun e => ?_⟩
      rw [e] at v1; omega
theorem sp_hasSpotAt {post : Int32 → HS → Prop} {l e n : Nat} {f : Nat → Nat} {x : Int32} {u v : Int64} (L : lL Z h l e n f) (P : ∀ i, i < n → gT h (f i) = 22) (k1 : (∃ i, i < n ∧ gI h 600 (f i) = x ∧ gJ h 601 (f i) = u ∧ gJ h 602 (f i) = v) → post 1 h) (k0 : (¬ ∃ i, i < n ∧ gI h 600 (f i) = x ∧ gJ h 601 (f i) = u ∧ gJ h 602 (f i) = v) → post 0 h) : wp_NJ_hasSpotAt Z post h (some l) x u v := by
  have n100 := L.2.2.1
  refine lp_inv (fun q => ∃ i, i ≤ n ∧ q = (some l, x, u, v, nI i, h) ∧ ∀ j, j < i → ¬ (gI h 600 (f j) = x ∧ gJ h 601 (f j) = u ∧ gJ h 602 (f j) = v)) (fun q => n - q.2.2.2.2.1.toNatClampNeg) ?_ _ ⟨0, by omega, rfl, fun j hj => absurd hj (Nat.not_lt_zero _)⟩
  rintro q K ⟨i, hi, rfl, o⟩ hK
  unfold wb_NJ_hasSpotAt_3
  dsimp only
  refine ⟨l, rfl, L.1, sp_size L (pk_le n i (fun z => k0 fun ⟨j, j1, j2⟩ => o j (by omega) j2) (fun z => ⟨l, rfl, L.1, sp_get L z ⟨cst (P i z), f i, rfl, P i z, sp_isAt (P i z) (fun w => ⟨fun y => absurd y (by decide), fun _ => k1 ⟨i, z, w⟩⟩) (fun w => ⟨fun _ => ?_, fun y => absurd rfl y⟩)⟩⟩))⟩
  rintro y rfl
  refine hK _ ⟨i + 1, by omega, by rw [nI_1], fun j hj => ?_⟩ ?_
  · by_cases y : j = i
    · subst y; exact w
    · exact o j (by omega)
  · dsimp only
    rw [nI_1, jr_cl (by omega), jr_cl (by omega)]; omega
theorem sp_isLoose {post : Int32 → HS → Prop} {l : Nat} (hd : WF d) (C : CD Z vx A B h d) (hl : l < nL d) (k1 : bare d l → post 1 h) (k0 : ¬ bare d l → post 0 h) : wp_NJ_isLoose Z post h vx (some (A 6 l)) := by
  have hW := hd.1.2.1
  have hP := hd.1.2.2.2.2.1
  have hS := hd.1.1
  have ls := hd.2.2.2.2.1 l hl
  obtain ⟨o1, o2, o3, o4, o5, o6⟩ := C.L hl
  refine ⟨C.x, A 6 l, rfl, o1, A 6 l, rfl, o1, A 6 l, rfl, o1, ?_⟩
  rw [C.p (k := 5) (by omega), o2, o3, o4]
  have pq : ∀ i, i < nP d → ((gI h 600 (A 7 i) = nI (lSh d l) ∧ gJ h 601 (A 7 i) = lX d l ∧ gJ h 602 (A 7 i) = lY d l) ↔ (pSh d i = lSh d l ∧ pX d i = lX d l ∧ pY d i = lY d l)) := by
    intro i hi
    obtain ⟨p1, p2, p3, p4, p5⟩ := C.P hi
    have := (hd.2.2.2.2.2.1 i hi).1
    rw [p2, p3, p4, nI_eq (by omega) (by omega)]
  refine sp_hasSpotAt C.pi (fun i hi => (C.P hi).1) (fun ⟨i, i1, i2⟩ => ⟨fun y => absurd y (by decide), fun _ => k0 fun b => b.2 i i1 ((pq i i1).mp i2)⟩) (fun no => ⟨fun _ => ?_, fun y => absurd rfl y⟩)
  refine lp_inv (fun q => ∃ i, i ≤ nW d ∧ q = (some (A 6 l), nI i, h) ∧ ∀ w, w < i → ¬ (wDr d w = 0 ∧ wSh d w = lSh d l ∧ thr d w (lX d l) (lY d l))) (fun q => nW d - q.2.1.toNatClampNeg) ?_ _ ⟨0, by omega, rfl, fun j hj => absurd hj (Nat.not_lt_zero _)⟩
  rintro q K ⟨i, hi, rfl, o⟩ hK
  unfold wb_NJ_isLoose_26
  dsimp only
  refine ⟨C.x, A 1 1, C.p (by omega), C.lT (by omega), sp_size C.wi (pk_le (nW d) i (fun z => k1 ⟨fun w a1 a2 a3 => o w (by have := a1.1; omega) ⟨a1.2, a2, a3⟩, fun p hp z => no ⟨p, hp, (pq p hp).mpr z⟩⟩) (fun z => ⟨C.x, A 1 1, C.p (by omega), C.lT (by omega), sp_get C.wi z ⟨cst (C.W z).1, A 4 i, rfl, (C.W z).1, ?_⟩⟩))⟩
  have ws := hd.2.2.1 i z
  refine sp_through (C.W z) (s := lSh d l) (by omega) (by omega) ws.2.2 ⟨o1, o2, o3, o4⟩ (fun w => ⟨fun y => absurd y (by decide), fun _ => k0 fun b => b.1 i ⟨z, w.1⟩ w.2.1 w.2.2⟩) (fun w => ⟨fun _ => ?_, fun y => absurd rfl y⟩)
  rintro y rfl
  refine hK _ ⟨i + 1, by omega, by rw [nI_1], fun j hj => ?_⟩ ?_
  · by_cases y : j = i
    · subst y; exact w
    · exact o j (by omega)
  · dsimp only
    rw [nI_1, jr_cl (by omega), jr_cl (by omega)]; omega
theorem sp_isJoined {post : Int32 → HS → Prop} {p : Nat} (hd : WF d) (C : CB Z vx A B h d pm) (hp : p < nP d) (k1 : joi d p → post 1 h) (k0 : ¬ joi d p → post 0 h) : wp_NJ_isJoinedToAnother Z post h vx (nI p) := by
  have hP := hd.1.2.2.2.2.1
  have hS := hd.1.1
  obtain ⟨X, V, T, N, Q, R⟩ := C
  have D := X.1
  have ps := hd.2.2.2.2.2.1 p hp
  obtain ⟨o1, o2, o3, o4, o5, o6⟩ := D.P hp
  refine ⟨D.x, A 1 5, D.p (by omega), D.lT (by omega), sp_get D.pi hp ⟨cst o1, A 7 p, rfl, o1, D.x, ?_⟩⟩
  rw [o2]
  refine sp_copiesOf hd D ⟨ps.1, ps.2.1⟩ ?_
  obtain ⟨le, nt, sz, W, ⟨d1, d2, d3, d4, d5⟩, w1, w2, w3, w4⟩ := N
  obtain ⟨⟨t1, t2, t3⟩, t4, ⟨p1, p2, p3⟩, ⟨q1, q2, q3⟩, ⟨r1, r2, r3⟩, ⟨u1, u2, u3⟩, ⟨v1, v2, v3⟩⟩ := T
  have cpl : cps d (pSh d p) ≤ nS d := cn_up _ _
  refine lp_inv (fun q => ∃ cc, cc ≤ cps d (pSh d p) ∧ q = (nI p, nI (cps d (pSh d p)), nI cc, h) ∧ ∀ k j, vR d k → k / 16 = p → cn (fun t => bas d t = pSh d p) (k % 16) < cc → vR d j → j ≠ k → ¬ nn d j = nn d k) (fun q => cps d (pSh d p) - q.2.2.1.toNatClampNeg) ?_ _ ⟨0, by omega, rfl, fun k j a b c => absurd c (Nat.not_lt_zero _)⟩
  rintro q K ⟨cc, hc, rfl, o⟩ hK
  unfold wb_NJ_isJoinedToAnother_21
  dsimp only
  refine pk_le (cps d (pSh d p)) cc (fun z => k0 fun ⟨k, j, a1, a2, a3, a4, a5⟩ => o k j a1 a2 ?_ a3 a4 a5) (fun z => ⟨D.x, A 15 0, t1, t4, D.x, A 15 0, t1, t4, ?_⟩)
  · have b := a1.2.2
    rw [a2] at b
    have : cn (fun t => bas d t = pSh d p) (k % 16) < cn (fun t => bas d t = pSh d p) (nS d) := cn_lt a1.2.1 b
    have e : cps d (pSh d p) = cn (fun t => bas d t = pSh d p) (nS d) := rfl
    omega
  obtain ⟨j, j1, j2, j3⟩ := cn_ex (P := fun t => bas d t = pSh d p) (N := nS d) (k := cc) z
  have v : vR d (16 * p + j) := by
    unfold vR
    rw [show (16 * p + j) / 16 = p from by omega, show (16 * p + j) % 16 = j from by omega]
    exact ⟨hp, j1, j2⟩
  have ek : ck d (16 * p + j) = 16 * p + cc := by
    unfold ck cp
    rw [show (16 * p + j) / 16 = p from by omega, show (16 * p + j) % 16 = j from by omega, j2, j3]
  have cl := ck_lt hd v
  have nl := nn_lt hd v
  unfold wp_NJ_pinNode
  rw [show (16 : Int32) = nI 16 from rfl, pk_mul, nI_add, Nat.mul_comm p 16, ← ek]
  refine ⟨A 15 3, r1, r2, by rw [r3]; exact pk_in (ck d (16 * p + j)) _ cl.1, A 15 4, u1, u2, ?_⟩
  rw [jr_cl (by omega), d2, (w2 _ (vR_lt hd v) v).2.1, u3, jr_cl (by omega), d3, w3 _ (by omega)]
  refine ⟨pk_in (nn d (16 * p + j)) _ (by omega), ?_⟩
  have two := cn_two (P := fun k => vR d k ∧ nn d k = nn d (16 * p + j)) (N := 960) (vR_lt hd v) ⟨v, rfl⟩
  have up := cn_up (fun k => vR d k ∧ nn d k = nn d (16 * p + j)) 960
  refine pk_le (cn (fun k => vR d k ∧ nn d k = nn d (16 * p + j)) 960) 1 (fun y => ?_) (fun y => k1 ?_)
  · rintro x rfl
    refine hK _ ⟨cc + 1, by omega, by rw [nI_1], fun k i a1 a2 a3 a4 a5 a6 => ?_⟩ ?_
    · by_cases w : cn (fun t => bas d t = pSh d p) (k % 16) < cc
      · exact o k i a1 a2 w a4 a5 a6
      · have b := a1.2.2
        rw [a2] at b
        have : k % 16 = j := cn_inj (P := fun t => bas d t = pSh d p) b j2 (by omega)
        have e : k = 16 * p + j := by omega
        subst e
        have := two.mpr ⟨i, vR_lt hd a4, ⟨a4, a6⟩, a5⟩
        omega
    · dsimp only
      rw [nI_1, jr_cl (by omega), jr_cl (by omega)]; omega
  · obtain ⟨i, i1, ⟨i2, i3⟩, i4⟩ := two.mp y
    exact ⟨16 * p + j, i, v, by omega, i2, i4, i3⟩
end BST
