section TLD
variable {Z : Nat → Nat} {vx : Nat} {A : Nat → Nat → Nat} {B : Nat → Nat × Nat} {h h' : HS} {d : DS} {pm : Nat → Nat}
/-- the remarks alone are written -/
def smR (vx : Nat) (A : Nat → Nat → Nat) (h h' : HS) : Prop := sm (fun a => a ≠ A 16 2 ∧ a ≠ vx) h h' ∧ cvx vx h h'
theorem smR.rf : smR vx A h h := ⟨sm_rf, cvx.rf⟩
theorem smR.tr {h'' : HS} (a : smR vx A h h') (b : smR vx A h' h'') : smR vx A h h'' := ⟨sm_tr a.1 b.1, a.2.tr b.2⟩
theorem RL.skip {J K : Nat} (R : RL vx d A h J) (hJ : J ≤ K) (no : ∀ j, J ≤ j → j < K → ¬ RP d j) : RL vx d A h K := by
  refine ⟨by rw [cn_skip hJ no]; exact R.1, fun j hj p => R.2.1 j (Nat.lt_of_not_le fun z => no j z hj p) p, by rw [cn_skip hJ no]; exact R.2.2⟩
theorem sp_remark {post : HS → Prop} {J : Nat} {x : Int32} (C : CB Z vx A B h d pm) (R : RL vx d A h J) (hJ : J < 960120) (p : RP d J) (hb : cn (RP d) J < 1080) (hv : x = rv J) (kk : ∀ h', CB Z vx A B h' d pm → RL vx d A h' (J + 1) → smR vx A h h' → post h') : wp_NJ_remark Z post h vx x := by
  obtain ⟨-, -, ⟨c1, c2, c3, c4⟩⟩ := id C.2.2.2.2.2
  have D := C.1.1
  have bx := C.bx
  have up := cn_up (RP d) J
  refine ⟨D.x, D.x, A 16 2, c1, by omega, by omega, ?_⟩
  rw [c4, R.1]
  refine pk_le 1080 (cn (RP d) J) (fun z => by omega) (fun z => ⟨D.x, D.x, A 16 2, c1, c3, by rw [c4]; exact pk_in (cn (RP d) J) _ hb, ?_⟩)
  rw [jr_cl (by omega), hv]
  intro h1 e1
  obtain ⟨C1, v1⟩ := C.w (by omega) e1
  have i1 : gI h1 16 vx = nI (cn (RP d) J) := by rw [e1, gI_sA]; exact R.1
  refine ⟨C1.1.1.x, C1.1.1.x, ?_⟩
  intro h2 e2
  rw [i1, nI_1] at e2
  have v2 : cvx vx h1 h2 := by rw [e2]; exact cvx.sI
  have m2 : mv 1 16 A A B B h1 h2 := by rw [e2]; exact flag_mv bx (by omega)
  refine kk h2 (C1.go v2 m2) ⟨by rw [e2, gI_sI, if_pos ⟨rfl, rfl⟩, cn_s p], fun j hj pj => ?_, by rw [cn_s p]; omega⟩ (smR.tr (h' := h1) ⟨by rw [e1]; exact fun a ha => ce_sA ha.1, v1⟩ ⟨by rw [e2]; exact fun a ha => ce_sI ha.2, v2⟩)
  rw [e2, gA_sI, e1, gA_sA]
  by_cases w : j = J
  · subst w; rw [if_pos ⟨rfl, rfl⟩]
  · have := cn_lt (show j < J by omega) pj
    rw [if_neg (fun y => by omega)]
    exact R.2.1 j (by omega) pj
theorem sp_remarkOther {post : HS → Prop} {n : Nat} {h0 : HS} {st : Nat → Nat} (hd : WF d) (C : CB Z vx A B h d pm) (hn : n < cnt d) (L : NL d A h) (st1 : gA h (A 16 0) n = nI (st n) ∧ gA h (A 16 0) (n + 1) = nI (st (n + 1))) (st2 : st n ≤ st (n + 1) ∧ st (n + 1) ≤ 960)
    (q1 : ∀ q, st n ≤ q → q < st (n + 1) → ∃ m, m < 1000 ∧ gA h (A 16 1) q = nI m ∧ hasNm d n m) (q2 : ∀ q q' m m', st n ≤ q → q ≤ q' → q' < st (n + 1) → m < 1000 → m' < 1000 → gA h (A 16 1) q = nI m → gA h (A 16 1) q' = nI m' → m ≤ m') (q3 : ∀ m, hasNm d n m → ∃ q, st n ≤ q ∧ q < st (n + 1) ∧ gA h (A 16 1) q = nI m)
    (R : RL vx d A h (1000 * n)) (Rc : cn (RP d) (1000 * n) ≤ st n) (kk : ∀ h', CB Z vx A B h' d pm → RL vx d A h' (1000 * (n + 1)) → cn (RP d) (1000 * (n + 1)) ≤ st (n + 1) → smR vx A h h' → post h') : wp_NJ_remarkOtherNames Z post h vx (nI n) := by
  have c9 : cnt d ≤ 960 := cn_up _ _
  have bx := C.bx
  have n02 := C.n16 (i := 0) (j := 2) (by omega) (by omega) (by omega)
  have n12 := C.n16 (i := 1) (j := 2) (by omega) (by omega) (by omega)
  have x0 : A 16 0 ≠ vx := fun e => by have := C.b16 (i := 0) (by omega); rw [e, bx] at this; cases this
  have x1 : A 16 1 ≠ vx := fun e => by have := C.b16 (i := 1) (by omega); rw [e, bx] at this; cases this
  refine ⟨C.1.1.x, sp_bestName hd C L hn fun r ob => ⟨C.1.1.x, A 16 0, C.2.2.2.2.2.1.1, C.2.2.2.2.2.1.2.2.1, by rw [C.2.2.2.2.2.1.2.2.2]; exact pk_in n _ (by omega), ?_⟩⟩
  rintro y rfl
  rw [jr_cl (by omega), st1.1]
  have isB : ∀ m, m < 1000 → hasNm d n m → (nI m = r ↔ BestOf d n m) := by
    intro m hm has
    rcases ob with ⟨o1, o2⟩ | ⟨b, b1, b2, b3⟩
    · exact absurd has (o2 m)
    · rw [b2, nI_eq (by omega) (by omega)]
      exact ⟨fun e => by rw [e]; exact b3, fun e => Best_u e b3⟩
  have rp : ∀ m, m < 1000 → (RP d (1000 * n + m) ↔ (hasNm d n m ∧ ¬ BestOf d n m)) := by
    intro m hm
    unfold RP
    rw [show (1000 * n + m) / 1000 = n from by omega, show (1000 * n + m) % 1000 = m from by omega]
    constructor
    · rintro (w | w | w)
      · exact ⟨w.2.2.1, w.2.2.2⟩
      · omega
      · omega
    · intro w
      exact Or.inl ⟨by omega, hn, w.1, w.2⟩
  refine lp_inv (fun q => ∃ i lo, q.1 = nI n ∧ q.2.1 = r ∧ q.2.2.2.1 = nI i ∧ st n ≤ i ∧ i ≤ st (n + 1) ∧ ((q.2.2.1 = -1 ∧ lo = 0) ∨ ∃ lm, lm < 1000 ∧ q.2.2.1 = nI lm ∧ lo = lm + 1 ∧ ∃ p, st n ≤ p ∧ p < i ∧ gA h (A 16 1) p = nI lm) ∧ (∀ p m, st n ≤ p → p < i → m < 1000 → gA h (A 16 1) p = nI m → m < lo) ∧ CB Z vx A B q.2.2.2.2 d pm ∧ RL vx d A q.2.2.2.2 (1000 * n + lo) ∧ cn (RP d) (1000 * n + lo) ≤ i ∧ smR vx A h q.2.2.2.2) (fun q => st (n + 1) - q.2.2.2.1.toNatClampNeg) ?_ _ ⟨st n, 0, rfl, rfl, rfl, by omega, by omega, Or.inl ⟨rfl, rfl⟩, fun p m a b => by omega, C, R, Rc, smR.rf⟩
  rintro ⟨y1, y2, y3, y4, h1⟩ K ⟨i, lo, e1, e2, e4, i1, i2, o, lows, C1, R1, Rc1, s1⟩ hK
  dsimp only at e1 e2 e4 o C1 R1 Rc1 s1
  subst e1 e4
  have g0 : gA h1 (A 16 0) = gA h (A 16 0) := (s1.1 _ ⟨n02, x0⟩).A
  have g1 : gA h1 (A 16 1) = gA h (A 16 1) := (s1.1 _ ⟨n12, x1⟩).A
  obtain ⟨⟨a1, a2, a3, a4⟩, ⟨b1, b2, b3, b4⟩, -⟩ := id C1.2.2.2.2.2
  unfold wb_NJ_remarkOtherNames_16
  dsimp only
  rw [nI_1, jr_cl (by omega)]
  refine ⟨C1.1.1.x, A 16 0, a1, a3, by rw [a4]; exact pk_in (n + 1) _ (by omega), ?_⟩
  rw [g0, st1.2]
  refine pk_le (st (n + 1)) i (fun z => ?_) (fun z => ⟨C1.1.1.x, A 16 1, b1, b3, by rw [b4]; exact pk_in i _ (by omega), ?_⟩)
  · have no : ∀ j, 1000 * n + lo ≤ j → j < 1000 * (n + 1) → ¬ RP d j := by
      intro j j1 j2 p
      rw [show j = 1000 * n + (j - 1000 * n) from by omega, rp _ (by omega)] at p
      obtain ⟨q, w1, w2, w3⟩ := q3 _ p.1
      have := lows q _ w1 (by omega) (by omega) w3
      omega
    have lo1 : lo ≤ 1000 := by rcases o with w | ⟨lm, w1, w2, w3, w4⟩ <;> omega
    exact kk h1 C1 (R1.skip (by omega) no) (by rw [cn_skip (m := 1000 * n + lo) (by omega) no]; omega) s1
  rintro y rfl
  rw [jr_cl (by omega), g1]
  obtain ⟨m1, u1, u2, u3⟩ := q1 i i1 z
  rw [u2]
  have lom : lo ≤ m1 + 1 := by
    rcases o with w | ⟨lm, w1, w2, w3, p, p1, p2, p3⟩
    · omega
    · have := q2 p i lm m1 p1 (by omega) z w1 u1 p3 u2
      omega
  have no : ∀ j, 1000 * n + lo ≤ j → j < 1000 * n + m1 → ¬ RP d j := by
    intro j j1 j2 p
    rw [show j = 1000 * n + (j - 1000 * n) from by omega, rp _ (by omega)] at p
    obtain ⟨q, w1, w2, w3⟩ := q3 _ p.1
    by_cases w : q < i
    · have := lows q _ w1 w (by omega) w3
      omega
    · have := q2 i q m1 _ i1 (by omega) w2 u1 (by omega) u2 w3
      omega
  have next : ∀ h2, CB Z vx A B h2 d pm → RL vx d A h2 (1000 * n + (m1 + 1)) → cn (RP d) (1000 * n + (m1 + 1)) ≤ i + 1 → smR vx A h h2 → wj_NJ_remarkOtherNames_62 Z post K vx (nI n) y2 (nI i) (nI m1) h2 := by
    intro h2 C2 R2 Rc2 s2
    rintro y rfl
    refine hK _ ⟨i + 1, m1 + 1, rfl, e2, nI_1 i, by omega, by omega, Or.inr ⟨m1, u1, rfl, rfl, i, i1, by omega, u2⟩, fun p m p1 p2 p3 p4 => ?_, C2, R2, Rc2, s2⟩ ?_
    · by_cases w : p = i
      · subst w
        rw [u2, nI_eq (by omega) (by omega)] at p4
        omega
      · have := lows p m p1 (by omega) p3 p4
        omega
    · dsimp only
      rw [nI_1, jr_cl (by omega), jr_cl (by omega)]; omega
  rw [e2] at next ⊢
  -- nothing is told of it
  have quiet : (lo = m1 + 1 ∨ ¬ RP d (1000 * n + m1)) → wj_NJ_remarkOtherNames_62 Z post K vx (nI n) r (nI i) (nI m1) h1 := by
    intro w
    rcases Nat.lt_or_ge m1 lo with y | y
    · have : lo = m1 + 1 := by omega
      subst this
      exact next h1 C1 R1 (by omega) s1
    · have w' : ¬ RP d (1000 * n + m1) := w.elim (fun x => by omega) id
      have no2 : ∀ j, 1000 * n + lo ≤ j → j < 1000 * n + (m1 + 1) → ¬ RP d j := by
        intro j j1 j2
        by_cases x : j = 1000 * n + m1
        · rw [x]; exact w'
        · exact no j j1 (by omega)
      exact next h1 C1 (R1.skip (by omega) no2) (by rw [cn_skip (m := 1000 * n + lo) (by omega) no2]; omega) s1
  refine ⟨fun w => quiet (Or.inr fun p => ((rp m1 u1).mp p).2 ((isB m1 u1 u3).mp w)), fun w => ⟨fun x => quiet (Or.inl ?_), fun x => ⟨C1.1.1.x, ?_⟩⟩⟩
  · rcases o with ⟨w1, w2⟩ | ⟨lm, w1, w2, w3, w4⟩
    · rw [w1] at x; exact absurd x (nI_m1 (by omega))
    · rw [w2, nI_eq (by omega) (by omega)] at x; omega
  · have lo2 : lo ≤ m1 := by
      rcases o with ⟨w1, w2⟩ | ⟨lm, w1, w2, w3, w4⟩
      · omega
      · have : m1 ≠ lm := fun y => x (by rw [w2, y])
        omega
    have ce := cn_skip (P := RP d) (m := 1000 * n + lo) (n := 1000 * n + m1) (by omega) no
    have pp : RP d (1000 * n + m1) := (rp m1 u1).mpr ⟨u3, fun y => w ((isB m1 u1 u3).mpr y)⟩
    rw [show (1000 : Int32) = nI 1000 from rfl, pk_mul, nI_add]
    refine sp_remark C1 (R1.skip (by omega) no) (by omega) pp (by omega) (by unfold rv; rw [if_pos (by omega)]) fun h2 C2 R2 s2 => next h2 C2 R2 ?_ (s1.tr s2)
    rw [← Nat.add_assoc, cn_s pp]; omega
theorem sp_listRemarks {post : HS → Prop} (hd : WF d) (hp : PM d pm) (C : CB Z vx A B h d pm) (L0 : ¬ gI h 14 vx = 0 → NL d A h) (M0 : ¬ gI h 17 vx = 0 → RL vx d A h 960120) (kk : ∀ h', CB Z vx A B h' d pm → (¬ gI h' 14 vx = 0 → NL d A h') → RL vx d A h' 960120 → cvx vx h h' → sm (fun a => (B a).1 ≠ 14 ∧ (B a).1 ≠ 16 ∧ a ≠ vx) h h' → post h') : wp_NJ_listRemarks Z post h vx := by
  have hL := hd.1.2.2.2.1
  have hP := hd.1.2.2.2.2.1
  have c9 : cnt d ≤ 960 := cn_up _ _
  have bx := C.bx
  refine ⟨C.1.1.x, fun z => ⟨C.1.1.x, sp_listNames hd hp C L0 fun h1 C1 L1 f1 f2 v1 s1 g1 => ?_⟩, fun z => kk h C L0 (M0 z) cvx.rf sm_rf⟩
  refine ⟨C1.1.1.x, ?_⟩
  intro h2 e2
  have v2 : cvx vx h1 h2 := by rw [e2]; exact cvx.sI
  have m2 : mv 1 16 A A B B h1 h2 := by rw [e2]; exact flag_mv bx (by omega)
  have C2 := C1.go v2 m2
  have L2 : NL d A h2 := by
    unfold NL at L1 ⊢
    rw [e2]; simp only [gA_sI]; exact L1
  have R2 : RL vx d A h2 0 := ⟨by rw [e2, gI_sI, if_pos ⟨rfl, rfl⟩]; rfl, fun j hj => absurd hj (Nat.not_lt_zero _), Nat.zero_le _⟩
  have s2 : smR vx A h1 h2 := ⟨by rw [e2]; exact fun a ha => ce_sI ha.2, v2⟩
  clear e2
  have B2 := C.b16 (i := 2) (by omega)
  -- the end
  have fin : ∀ h9, CB Z vx A B h9 d pm → NL d A h9 → RL vx d A h9 960120 → smR vx A h2 h9 → gT h9 vx = 16 ∧ ((1 : Int32) = 0 ∨ (1 : Int32) = 1) ∧ ∀ hz, hz = sI h9 17 vx (1 : Int32) → post hz := by
    intro h9 C9 L9 R9 s9
    refine ⟨C9.1.1.x, Or.inr rfl, ?_⟩
    intro hz ez
    have vz : cvx vx h9 hz := by rw [ez]; exact cvx.sI
    have mz : mv 1 16 A A B B h9 hz := by rw [ez]; exact flag_mv bx (by omega)
    refine kk hz (C9.go vz mz) (fun _ => ?_) ⟨?_, fun j hj p => ?_, R9.2.2⟩ (v1.tr (v2.tr (s9.2.tr vz))) (fun a ha => ?_)
    · unfold NL at L9 ⊢
      rw [ez]; simp only [gA_sI]; exact L9
    · rw [ez, gI_sI, if_neg (by omega)]; exact R9.1
    · rw [ez, gA_sI]; exact R9.2.1 j hj p
    · have n2 : a ≠ A 16 2 := fun w => ha.2.1 (by rw [w, B2])
      exact ce_tr (s1 a ha) (ce_tr (s2.1 a ⟨n2, ha.2.2⟩) (ce_tr (s9.1 a ⟨n2, ha.2.2⟩) (by rw [ez]; exact ce_sI ha.2.2)))
  have n02 := C.n16 (i := 0) (j := 2) (by omega) (by omega) (by omega)
  have n12 := C.n16 (i := 1) (j := 2) (by omega) (by omega) (by omega)
  have x0 : A 16 0 ≠ vx := fun e => by have := C.b16 (i := 0) (by omega); rw [e, bx] at this; cases this
  have x1 : A 16 1 ≠ vx := fun e => by have := C.b16 (i := 1) (by omega); rw [e, bx] at this; cases this
  have NLf : ∀ h9, smR vx A h2 h9 → NL d A h9 := by
    intro h9 s9
    unfold NL at L2 ⊢
    rw [(s9.1 _ ⟨n02, x0⟩).A, (s9.1 _ ⟨n12, x1⟩).A]; exact L2
  -- pins
  have third : ∀ h8, CB Z vx A B h8 d pm → RL vx d A h8 960060 → cn (RP d) 960060 ≤ 1020 → smR vx A h2 h8 → lp (wb_NJ_listRemarks_89 Z post vx) ((0 : Int32), h8) := by
    intro h8 C8 R8 Rc8 s8
    refine lp_inv (fun q => ∃ p, p ≤ nP d ∧ q.1 = nI p ∧ CB Z vx A B q.2 d pm ∧ RL vx d A q.2 (960060 + p) ∧ cn (RP d) (960060 + p) ≤ 1020 + p ∧ smR vx A h2 q.2) (fun q => nP d - q.1.toNatClampNeg) ?_ _ ⟨0, by omega, rfl, C8, R8, Rc8, s8⟩
    rintro ⟨y1, h3⟩ K ⟨p, p1, e1, C3, R3, Rc3, s3⟩ hK
    dsimp only at e1 C3 R3 Rc3 s3
    subst e1
    have rp : p < nP d → (RP d (960060 + p) ↔ (¬ pOp d p = 0 ∧ joi d p)) := by
      intro hp
      unfold RP
      rw [show 960060 + p - 960060 = p from by omega]
      constructor
      · rintro (w | w | w)
        · omega
        · omega
        · exact ⟨w.2.2.2.1, w.2.2.2.2⟩
      · intro w; exact Or.inr (Or.inr ⟨by omega, by omega, hp, w.1, w.2⟩)
    have next : ∀ h4, CB Z vx A B h4 d pm → RL vx d A h4 (960060 + p + 1) → cn (RP d) (960060 + p + 1) ≤ 1020 + p + 1 → smR vx A h2 h4 → p < nP d → wj_NJ_listRemarks_134 Z post K vx (nI p) h4 := by
      intro h4 C4 R4 Rc4 s4 hp
      rintro y rfl
      refine hK _ ⟨p + 1, by omega, nI_1 p, C4, R4, Rc4, s4⟩ ?_
      dsimp only
      rw [nI_1, jr_cl (by omega), jr_cl (by omega)]; omega
    have quiet : ¬ RP d (960060 + p) → p < nP d → wj_NJ_listRemarks_134 Z post K vx (nI p) h3 := fun w hp =>
      next h3 C3 (R3.skip (by omega) fun j a b => by rw [show j = 960060 + p from by omega]; exact w) (by rw [cn_n w]; omega) s3 hp
    have D := C3.1.1
    unfold wb_NJ_listRemarks_89
    dsimp only
    refine ⟨D.x, A 1 5, D.p (by omega), D.lT (by omega), sp_size D.pi (pk_le (nP d) p (fun w => fin h3 C3 (NLf h3 s3) (R3.skip (by omega) fun j a b w => ?_) s3) (fun w => ⟨D.x, A 1 5, D.p (by omega), D.lT (by omega), sp_get D.pi w ?_⟩))⟩
    · rcases w with w | w | w <;> omega
    obtain ⟨o1, o2, o3, o4, o5, o6, o7⟩ := D.P w
    have op := (hd.2.2.2.2.2.1 p w).2.2
    refine ⟨cst o1, A 7 p, rfl, o1, ?_⟩
    rw [o7]
    refine ⟨fun y => quiet (fun q => ((rp w).mp q).1 ?_) w, fun y => ⟨D.x, sp_isJoined hd C3 w (fun j => ⟨fun x => absurd x (by decide), fun _ => ⟨D.x, ?_⟩⟩) (fun j => ⟨fun _ => quiet (fun q => j ((rp w).mp q).2) w, fun x => absurd rfl x⟩)⟩⟩
    · rw [show (0 : Int32) = nI 0 from rfl, nI_eq (by omega) (by omega)] at y; exact y
    · have pp : RP d (960060 + p) := (rp w).mpr ⟨fun x => y (by rw [x]; rfl), j⟩
      rw [show (200000000 : Int32) = nI 200000000 from rfl, nI_add]
      refine sp_remark C3 R3 (by omega) pp (by omega) ?_ fun h4 C4 R4 s4 => next h4 C4 R4 (by rw [cn_s pp]; omega) (s3.tr s4) w
      unfold rv; rw [if_neg (by omega), if_neg (by omega), show 960060 + p - 960060 = p from by omega]
  -- labels
  have second : ∀ h8, CB Z vx A B h8 d pm → RL vx d A h8 960000 → cn (RP d) 960000 ≤ 960 → smR vx A h2 h8 → lp (wb_NJ_listRemarks_43 Z post vx) ((0 : Int32), h8) := by
    intro h8 C8 R8 Rc8 s8
    refine lp_inv (fun q => ∃ l, l ≤ nL d ∧ q.1 = nI l ∧ CB Z vx A B q.2 d pm ∧ RL vx d A q.2 (960000 + l) ∧ cn (RP d) (960000 + l) ≤ 960 + l ∧ smR vx A h2 q.2) (fun q => nL d - q.1.toNatClampNeg) ?_ _ ⟨0, by omega, rfl, C8, R8, Rc8, s8⟩
    rintro ⟨y1, h3⟩ K ⟨p, p1, e1, C3, R3, Rc3, s3⟩ hK
    dsimp only at e1 C3 R3 Rc3 s3
    subst e1
    have rp : p < nL d → (RP d (960000 + p) ↔ bare d p) := by
      intro hp
      unfold RP
      rw [show 960000 + p - 960000 = p from by omega]
      constructor
      · rintro (w | w | w)
        · omega
        · exact w.2.2.2
        · omega
      · intro w; exact Or.inr (Or.inl ⟨by omega, by omega, hp, w⟩)
    have next : ∀ h4, CB Z vx A B h4 d pm → RL vx d A h4 (960000 + p + 1) → cn (RP d) (960000 + p + 1) ≤ 960 + p + 1 → smR vx A h2 h4 → p < nL d → wj_NJ_listRemarks_81 Z post K vx (nI p) h4 := by
      intro h4 C4 R4 Rc4 s4 hp
      rintro y rfl
      refine hK _ ⟨p + 1, by omega, nI_1 p, C4, R4, Rc4, s4⟩ ?_
      dsimp only
      rw [nI_1, jr_cl (by omega), jr_cl (by omega)]; omega
    have D := C3.1.1
    unfold wb_NJ_listRemarks_43
    dsimp only
    refine ⟨D.x, A 1 3, D.p (by omega), D.lT (by omega), sp_size D.la (pk_le (nL d) p (fun w => ?_) (fun w => ⟨D.x, A 1 3, D.p (by omega), D.lT (by omega), sp_get D.la w ?_⟩))⟩
    · have no : ∀ j, 960000 + p ≤ j → j < 960060 → ¬ RP d j := by
        intro j a b w
        rcases w with w | w | w <;> omega
      exact third h3 C3 (R3.skip (by omega) no) (by rw [cn_skip (m := 960000 + p) (by omega) no]; omega) s3
    refine ⟨cst (D.L w).1, D.x, sp_isLoose hd D w (fun j => ⟨fun x => absurd x (by decide), fun _ => ⟨D.x, ?_⟩⟩) (fun j => ⟨fun _ => ?_, fun x => absurd rfl x⟩)⟩
    · have pp : RP d (960000 + p) := (rp w).mpr j
      rw [show (100000000 : Int32) = nI 100000000 from rfl, nI_add]
      refine sp_remark C3 R3 (by omega) pp (by omega) ?_ fun h4 C4 R4 s4 => next h4 C4 R4 (by rw [cn_s pp]; omega) (s3.tr s4) w
      unfold rv; rw [if_neg (by omega), if_pos (by omega), show 960000 + p - 960000 = p from by omega]
    · have np : ¬ RP d (960000 + p) := fun q => j ((rp w).mp q)
      exact next h3 C3 (R3.skip (by omega) fun j a b => by rw [show j = 960000 + p from by omega]; exact np) (by rw [cn_n np]; omega) s3 w
  -- nets
  obtain ⟨st, l1, l2, l3, l4⟩ := id L2
  have mo : ∀ i, i ≤ cnt d → st i ≤ 960 := by
    intro i hi
    have : ∀ k, i ≤ k → k ≤ cnt d → st i ≤ st k := by
      intro k h1
      induction k with
      | zero => intro _; rw [show i = 0 from by omega]; exact Nat.le_refl _
      | succ k ih =>
        intro h2
        by_cases e : i = k + 1
        · rw [e]; exact Nat.le_refl _
        · have := ih (by omega) (by omega)
          have := l2 k (by omega)
          omega
    have := this (cnt d) hi (Nat.le_refl _)
    omega
  refine lp_inv (fun q => ∃ n, n ≤ cnt d ∧ q.1 = nI n ∧ CB Z vx A B q.2 d pm ∧ RL vx d A q.2 (1000 * n) ∧ cn (RP d) (1000 * n) ≤ st n ∧ smR vx A h2 q.2) (fun q => cnt d - q.1.toNatClampNeg) ?_ _ ⟨0, by omega, rfl, C2, R2, Nat.zero_le _, smR.rf⟩
  rintro ⟨y1, h3⟩ K ⟨n, n1, e1, C3, R3, Rc3, s3⟩ hK
  dsimp only at e1 C3 R3 Rc3 s3
  subst e1
  obtain ⟨le, nt, sz, W, ⟨d1, d2, d3, d4, d5⟩, -⟩ := id C3.2.2.2.1
  have g0 : gA h3 (A 16 0) = gA h2 (A 16 0) := (s3.1 _ ⟨n02, x0⟩).A
  have g1 : gA h3 (A 16 1) = gA h2 (A 16 1) := (s3.1 _ ⟨n12, x1⟩).A
  unfold wb_NJ_listRemarks_19
  dsimp only
  refine ⟨C3.1.1.x, A 15 0, C3.2.2.1.1.1, C3.2.2.1.2.1, ?_⟩
  rw [d4]
  refine pk_le (cnt d) n (fun w => ?_) (fun w => ⟨C3.1.1.x, ?_⟩)
  · have no : ∀ j, 1000 * n ≤ j → j < 960000 → ¬ RP d j := by
      intro j a b w
      rcases w with w | w | w <;> omega
    have := mo n n1
    exact second h3 C3 (R3.skip (by omega) no) (by rw [cn_skip (m := 1000 * n) (by omega) no]; omega) s3
  · obtain ⟨q1, q2, q3⟩ := l4 n w
    refine sp_remarkOther (h0 := h2) (st := st) hd C3 w (NLf h3 s3) (by rw [g0]; exact ⟨l1 n n1, l1 (n + 1) (by omega)⟩) ⟨l2 n w, mo (n + 1) (by omega)⟩ (by rw [g1]; exact q1) (by rw [g1]; exact q2) (by rw [g1]; exact q3) R3 Rc3 fun h4 C4 R4 Rc4 s4 => ?_
    rintro y rfl
    refine hK _ ⟨n + 1, by omega, nI_1 n, C4, R4, Rc4, s3.tr s4⟩ ?_
    dsimp only
    rw [nI_1, jr_cl (by omega), jr_cl (by omega)]; omega
theorem sp_told {post : Int32 → HS → Prop} {k : Int32} (hd : WF d) (hp : PM d pm) (C : CB Z vx A B h d pm) (L0 : ¬ gI h 14 vx = 0 → NL d A h) (M0 : ¬ gI h 17 vx = 0 → RL vx d A h 960120) (kk : ∀ h' r, Kth (RP d) rv 960120 k r → CB Z vx A B h' d pm → (¬ gI h' 14 vx = 0 → NL d A h') → RL vx d A h' 960120 → cvx vx h h' → sm (fun a => (B a).1 ≠ 14 ∧ (B a).1 ≠ 16 ∧ a ≠ vx) h h' → post r h') : wp_NJ_told Z post h vx k := by
  refine ⟨C.1.1.x, sp_listRemarks hd hp C L0 M0 fun h1 C1 L1 R1 v1 s1 => ?_⟩
  have go : ∀ r, Kth (RP d) rv 960120 k r → post r h1 := fun r K => kk h1 r K C1 L1 R1 v1 s1
  obtain ⟨-, -, ⟨c1, c2, c3, c4⟩⟩ := id C1.2.2.2.2.2
  have up := cn_up (RP d) 960120
  refine ⟨fun z => go _ (Or.inr ⟨Or.inl z, rfl⟩), fun z => ⟨C1.1.1.x, ?_⟩⟩
  obtain ⟨i, i1, rfl⟩ := nI_of z
  rw [R1.1]
  refine pk_le (cn (RP d) 960120) i (fun w => go _ (Or.inr ⟨Or.inr ((nI_leI (by omega) i1).mpr w), rfl⟩)) (fun w => ⟨C1.1.1.x, A 16 2, c1, c3, by rw [c4]; exact pk_in i _ (by have := R1.2.2; omega), ?_⟩)
  obtain ⟨j, j1, j2, j3⟩ := cn_ex w
  rw [jr_cl i1, ← j3, R1.2.1 j j1 j2]
  exact go _ (Or.inl ⟨j, j1, j2, by rw [j3], rfl⟩)
end TLD
