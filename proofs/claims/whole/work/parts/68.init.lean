/-! THE CLASS's OBJECT IS MADE -/
def nst (vx : Nat) (h : HS) (B : Nat → Nat × Nat) (h' : HS) (B' : Nat → Nat × Nat) : Prop := ∀ a, gT h a ≠ 0 → gT h' a ≠ 0 ∧ B' a = B a ∧ (a ≠ vx → ce h h' a)
theorem nst.tr {vx : Nat} {h h' h'' : HS} {B B' B'' : Nat → Nat × Nat} (a : nst vx h B h' B') (b : nst vx h' B' h'' B'') : nst vx h B h'' B'' := fun x hx => by
  obtain ⟨a1, a2, a3⟩ := a x hx
  obtain ⟨b1, b2, b3⟩ := b x a1
  exact ⟨b1, b2.trans a2, fun w => ce_tr (a3 w) (b3 w)⟩
def fld (vx k q : Nat) (h h' : HS) : Prop := gT h' vx = 16 ∧ (∀ f, gR h' f vx = if f = k then some q else gR h f vx) ∧ ∀ f, gI h' f vx = gI h f vx
section INI
variable {Z : Nat → Nat} {vx : Nat} {h : HS} {B : Nat → Nat × Nat} {K : HS → Prop} {k : Nat}
theorem st_list (hv : gT h vx = 16) (kk : ∀ q h' B', nst vx h B h' B' → fld vx k q h h' → (∀ e f, lL Z h' q e 0 f) → B' q = (1, k) → q ≠ vx → K h') : ∀ q, gT h q = 0 → ∀ h2, h2 = nH h q 25 0 → wp_AL_init Z (fun h4 => gT h4 vx = 16 ∧ ∀ h6, h6 = sR h4 k vx (some q) → K h6) h2 q := by
  intro q hq h2 e2
  have qv : q ≠ vx := fun e => by rw [e, hv] at hq; omega
  have s2 : ∀ a, a ≠ q → ce h h2 a := fun a ha => by rw [e2]; exact ce_nH ha
  refine sp_AL_init (by rw [e2, gT_nH2, if_pos rfl]) (by rw [e2, gI_nH2, if_pos rfl]) fun h4 L4 r4 s4 => ?_
  have cx := ce_tr (s2 vx (Ne.symm qv)) (s4 vx (Ne.symm qv))
  refine ⟨by rw [cx.T]; exact hv, ?_⟩
  intro h6 e6
  have c6 : ∀ a, a ≠ vx → ce h4 h6 a := fun a ha => by rw [e6]; exact ce_sR ha
  refine kk q h6 (fun a => if a = q then (1, k) else B a) (fun a ha => ?_) ⟨by rw [e6, gT_sR, cx.T]; exact hv, fun f => ?_, fun f => by rw [e6, gI_sR, cx.I]⟩ (fun e f => ⟨by rw [(c6 q qv).T]; exact (L4 q f).1, by rw [(c6 q qv).I]; exact (L4 q f).2.1, by omega, Or.inl ⟨by rw [(c6 q qv).R]; exact r4, rfl⟩, fun i hi => absurd hi (Nat.not_lt_zero _)⟩) (if_pos rfl) qv
  · have aq : a ≠ q := fun w => ha (by rw [w]; exact hq)
    have c := ce_tr (s2 a aq) (s4 a aq)
    refine ⟨?_, if_neg aq, fun w => ce_tr c (c6 a w)⟩
    by_cases w : a = vx
    · rw [w, e6, gT_sR, cx.T, hv]; decide
    · rw [(c6 a w).T, c.T]; exact ha
  · rw [e6, gR_sR]
    by_cases w : f = k
    · rw [if_pos ⟨w, rfl⟩, if_pos w]
    · rw [if_neg (fun y => w y.1), if_neg w, cx.R]
theorem st_ary {ty L : Nat} {ro : Nat × Nat} (ht : ty ≠ 0) (hv : gT h vx = 16) (kk : ∀ q h' B', nst vx h B h' B' → fld vx k q h h' → gT h' q = ty → gN h' q = L → (∀ i, gA h' q i = 0) → B' q = ro → q ≠ vx → K h') : ∀ q, gT h q = 0 → ∀ h2, h2 = nH h q ty L → gT h2 vx = 16 ∧ ∀ h4, h4 = sR h2 k vx (some q) → K h4 := by
  intro q hq h2 e2
  have qv : q ≠ vx := fun e => by rw [e, hv] at hq; omega
  have s2 : ∀ a, a ≠ q → ce h h2 a := fun a ha => by rw [e2]; exact ce_nH ha
  have cx := s2 vx (Ne.symm qv)
  refine ⟨by rw [cx.T]; exact hv, ?_⟩
  intro h6 e6
  have c6 : ∀ a, a ≠ vx → ce h2 h6 a := fun a ha => by rw [e6]; exact ce_sR ha
  have cq := c6 q qv
  refine kk q h6 (fun a => if a = q then ro else B a) (fun a ha => ?_) ⟨by rw [e6, gT_sR, cx.T]; exact hv, fun f => ?_, fun f => by rw [e6, gI_sR, cx.I]⟩ (by rw [cq.T, e2, gT_nH2, if_pos rfl]) (by rw [cq.N, e2, gN_nH2, if_pos rfl]) (fun i => by rw [cq.A, e2, gA_nH2, if_pos rfl]) (if_pos rfl) qv
  · have aq : a ≠ q := fun w => ha (by rw [w]; exact hq)
    have c := s2 a aq
    refine ⟨?_, if_neg aq, fun w => ce_tr c (c6 a w)⟩
    by_cases w : a = vx
    · rw [w, e6, gT_sR, cx.T, hv]; decide
    · rw [(c6 a w).T, c.T]; exact ha
  · rw [e6, gR_sR]
    by_cases w : f = k
    · rw [if_pos ⟨w, rfl⟩, if_pos w]
    · rw [if_neg (fun y => w y.1), if_neg w, cx.R]
theorem st_joins {R L ro : Nat} (hR0 : 0 < R) (hR : R ≤ 17) (hL : L ≤ 1060) (hv : gT h vx = 16) (kk : ∀ q u row h' B', nst vx h B h' B' → fld vx k q h h' → JF h' q u row (fun r => if r = 0 then L else 0) R (fun n => n) → B' q = (ro, 0) → B' u = (ro, 1) → (∀ r, r < R → B' (row r) = (ro + 1, r)) → q ≠ vx → u ≠ vx → (∀ r, r < R → row r ≠ vx) → K h') : ∀ q, gT h q = 0 → ∀ h2, h2 = nH h q 18 0 → wp_Joins_init Z (fun h4 => gT h4 vx = 16 ∧ ∀ h6, h6 = sR h4 k vx (some q) → K h6) h2 q (nI R) (nI L) := by
  intro q hq h2 e2
  have qv : q ≠ vx := fun e => by rw [e, hv] at hq; omega
  have s2 : ∀ a, a ≠ q → ce h h2 a := fun a ha => by rw [e2]; exact ce_nH ha
  have tq : gT h2 q = 18 := by rw [e2, gT_nH2, if_pos rfl]
  clear e2
  refine sp_Joins_init tq hR0 hR hL fun h4 u row fr J s4 => ?_
  have cx := ce_tr (s2 vx (Ne.symm qv)) (s4 vx ⟨Ne.symm qv, by rw [(s2 vx (Ne.symm qv)).T, hv]; decide⟩)
  have fu := fr u (Or.inl rfl)
  have frr : ∀ r, r < R → gT h2 (row r) = 0 := fun r hr => fr _ (Or.inr ⟨r, hr, rfl⟩)
  have uq : u ≠ q := fun e => by rw [e, tq] at fu; omega
  have rq : ∀ r, r < R → row r ≠ q := fun r hr e => by have := frr r hr; rw [e, tq] at this; omega
  have uv : u ≠ vx := fun e => by rw [e, (s2 vx (Ne.symm qv)).T, hv] at fu; omega
  have rvx : ∀ r, r < R → row r ≠ vx := fun r hr e => by have := frr r hr; rw [e, (s2 vx (Ne.symm qv)).T, hv] at this; omega
  refine ⟨by rw [cx.T]; exact hv, ?_⟩
  intro h6 e6
  have c6 : ∀ a, a ≠ vx → ce h4 h6 a := fun a ha => by rw [e6]; exact ce_sR ha
  obtain ⟨⟨j1, j2, j3, j4, j5, j6, j7⟩, -⟩ := id J
  have ru : ∀ r, r < R → row r ≠ u := fun r hr e => by have := (j6 r hr).2.1; rw [e] at this; omega
  refine kk q u row h6 (fun a => if a = q then (ro, 0) else if a = u then (ro, 1) else @ite _ (∃ r, r < R ∧ a = row r) (Classical.propDecidable _) (ro + 1, @Classical.epsilon Nat ⟨0⟩ (fun r => r < R ∧ a = row r)) (B a)) (fun a ha => ?_) ⟨by rw [e6, gT_sR, cx.T]; exact hv, fun f => ?_, fun f => by rw [e6, gI_sR, cx.I]⟩ (J.frame fun a ha => c6 a ?_) (if_pos rfl) ?_ (fun r hr => ?_) qv uv rvx
  · have aq : a ≠ q := fun w => ha (by rw [w]; exact hq)
    have a2 : gT h2 a ≠ 0 := by rw [(s2 a aq).T]; exact ha
    have c := ce_tr (s2 a aq) (s4 a ⟨aq, a2⟩)
    refine ⟨?_, ?_, fun w => ce_tr c (c6 a w)⟩
    · by_cases w : a = vx
      · rw [w, e6, gT_sR, cx.T, hv]; decide
      · rw [(c6 a w).T, c.T]; exact ha
    · dsimp only
      rw [if_neg aq, if_neg (fun w => a2 (by rw [w]; exact fu)), if_neg]
      rintro ⟨r, hr, e⟩
      exact a2 (by rw [e]; exact frr r hr)
  · rw [e6, gR_sR]
    by_cases w : f = k
    · rw [if_pos ⟨w, rfl⟩, if_pos w]
    · rw [if_neg (fun y => w y.1), if_neg w, cx.R]
  · rcases ha with rfl | rfl | ⟨r, hr, rfl⟩
    · exact qv
    · exact uv
    · exact rvx r hr
  · rw [if_neg uq, if_pos rfl]
  · rw [if_neg (rq r hr), if_neg (ru r hr), if_pos ⟨r, hr, rfl⟩]
    obtain ⟨e1, e2⟩ := @Classical.epsilon_spec Nat (fun s => s < R ∧ row r = row s) ⟨r, hr, rfl⟩
    have := j7 r _ hr e1 e2
    rw [← this]
/-- the table's own arrays -/
theorem st_tab (hv : gT h vx = 16) (kk : ∀ q a1 a2 a3 a4 a5 h' B', nst vx h B h' B' → fld vx k q h h' → gT h' q = 19 → (gR h' 300 q = some a1 ∧ gT h' a1 = 1 ∧ gN h' a1 = 960) → (gR h' 301 q = some a2 ∧ gT h' a2 = 1 ∧ gN h' a2 = 960) → (gR h' 302 q = some a3 ∧ gT h' a3 = 1 ∧ gN h' a3 = 960) → (gR h' 303 q = some a4 ∧ gT h' a4 = 1 ∧ gN h' a4 = 960) → (gR h' 304 q = some a5 ∧ gT h' a5 = 2 ∧ gN h' a5 = 960) → (∀ i, i < 960 → gA h' a1 i = -1) → (∀ i, gA h' a4 i = 0) → gI h' 305 q = 0 → gI h' 306 q = 0 → (B' q = (15, 0) ∧ B' a1 = (15, 1) ∧ B' a2 = (15, 2) ∧ B' a3 = (15, 3) ∧ B' a4 = (15, 4) ∧ B' a5 = (15, 5)) → K h') : ∀ q, gT h q = 0 → ∀ h2, h2 = nH h q 19 0 → wp_Tab_init Z (fun h4 => gT h4 vx = 16 ∧ ∀ h6, h6 = sR h4 k vx (some q) → K h6) h2 q := by
  intro q hq h2 e2
  have qv : q ≠ vx := fun e => by rw [e, hv] at hq; omega
  have s2 : ∀ a, a ≠ q → ce h h2 a := fun a ha => by rw [e2]; exact ce_nH ha
  have t2 : gT h2 q = 19 := by rw [e2, gT_nH2, if_pos rfl]
  have z5 : gI h2 305 q = 0 := by rw [e2, gI_nH2, if_pos rfl]
  have z6 : gI h2 306 q = 0 := by rw [e2, gI_nH2, if_pos rfl]
  have v2 : gT h2 vx = 16 := by rw [(s2 vx (Ne.symm qv)).T]; exact hv
  clear e2
  -- one array
  have one : ∀ (g : HS) (f ty L : Nat), ty ≠ 0 → gT g q = 19 → gT g vx = 16 → ∀ a, gT g a = 0 → ∀ g1, g1 = nH g a ty L → ∀ g2, g2 = sR g1 f q (some a) → gT g1 q = 19 ∧ gT g2 q = 19 ∧ gT g2 vx = 16 ∧ gR g2 f q = some a ∧ (∀ f', f' ≠ f → gR g2 f' q = gR g f' q) ∧ (∀ f', gI g2 f' q = gI g f' q) ∧ gT g2 a = ty ∧ gN g2 a = L ∧ (∀ i, gA g2 a i = 0) ∧ a ≠ q ∧ a ≠ vx ∧ ∀ b, b ≠ a → b ≠ q → ce g g2 b := by
    intro g f ty L ht gq gv a ga g1 e1 g2 e2
    have aq : a ≠ q := fun w => by rw [w, gq] at ga; omega
    have av : a ≠ vx := fun w => by rw [w, gv] at ga; omega
    have c1 : ∀ b, b ≠ a → ce g g1 b := fun b hb => by rw [e1]; exact ce_nH hb
    have c2 : ∀ b, b ≠ q → ce g1 g2 b := fun b hb => by rw [e2]; exact ce_sR hb
    refine ⟨by rw [(c1 q (Ne.symm aq)).T]; exact gq, by rw [e2, gT_sR, (c1 q (Ne.symm aq)).T]; exact gq, by rw [(c2 vx (Ne.symm qv)).T, (c1 vx (Ne.symm av)).T]; exact gv, by rw [e2, gR_sR, if_pos ⟨rfl, rfl⟩], fun f' hf => by rw [e2, gR_sR, if_neg (fun w => hf w.1), (c1 q (Ne.symm aq)).R], fun f' => by rw [e2, gI_sR, (c1 q (Ne.symm aq)).I], by rw [(c2 a aq).T, e1, gT_nH2, if_pos rfl], by rw [(c2 a aq).N, e1, gN_nH2, if_pos rfl], fun i => by rw [(c2 a aq).A, e1, gA_nH2, if_pos rfl], aq, av, fun b h1 h2 => ce_tr (c1 b h1) (c2 b h2)⟩
  intro a1 ga1 g1 e1
  refine ⟨(one h2 300 1 960 (by decide) t2 v2 a1 ga1 g1 e1 _ rfl).1, ?_⟩
  intro h4 e4
  obtain ⟨-, q4, v4, r4, r4', i4, t4, n4, z4, aq1, av1, c4⟩ := one h2 300 1 960 (by decide) t2 v2 a1 ga1 g1 e1 h4 e4
  clear e4
  intro a2 ga2 g2 e2
  refine ⟨(one h4 301 1 960 (by decide) q4 v4 a2 ga2 g2 e2 _ rfl).1, ?_⟩
  intro h8 e8
  obtain ⟨-, q8, v8, r8, r8', i8, t8, n8, z8, aq2, av2, c8⟩ := one h4 301 1 960 (by decide) q4 v4 a2 ga2 g2 e2 h8 e8
  clear e8
  intro a3 ga3 g3 e3
  refine ⟨(one h8 302 1 960 (by decide) q8 v8 a3 ga3 g3 e3 _ rfl).1, ?_⟩
  intro h12 e12
  obtain ⟨-, q12, v12, r12, r12', i12, t12, n12, z12, aq3, av3, c12⟩ := one h8 302 1 960 (by decide) q8 v8 a3 ga3 g3 e3 h12 e12
  clear e12
  intro a4 ga4 g4 e4
  refine ⟨(one h12 303 1 960 (by decide) q12 v12 a4 ga4 g4 e4 _ rfl).1, ?_⟩
  intro h16 e16
  obtain ⟨-, q16, v16, r16, r16', i16, t16, n16, z16, aq4, av4, c16⟩ := one h12 303 1 960 (by decide) q12 v12 a4 ga4 g4 e4 h16 e16
  clear e16
  intro a5 ga5 g5 e5
  refine ⟨(one h16 304 2 960 (by decide) q16 v16 a5 ga5 g5 e5 _ rfl).1, ?_⟩
  intro h20 e20
  obtain ⟨-, q20, v20, r20, r20', i20, t20, n20, z20, aq5, av5, c20⟩ := one h16 304 2 960 (by decide) q16 v16 a5 ga5 g5 e5 h20 e20
  clear e20
  -- apart
  have n12' : a1 ≠ a2 := fun w => by rw [← w, t4] at ga2; omega
  have l1_8 : ce h4 h8 a1 := c8 a1 n12' aq1
  have n13 : a1 ≠ a3 := fun w => by rw [← w, l1_8.T, t4] at ga3; omega
  have l1_12 := ce_tr l1_8 (c12 a1 n13 aq1)
  have n14 : a1 ≠ a4 := fun w => by rw [← w, l1_12.T, t4] at ga4; omega
  have l1_16 := ce_tr l1_12 (c16 a1 n14 aq1)
  have n15 : a1 ≠ a5 := fun w => by rw [← w, l1_16.T, t4] at ga5; omega
  have l1_20 := ce_tr l1_16 (c20 a1 n15 aq1)
  have n23 : a2 ≠ a3 := fun w => by rw [← w, t8] at ga3; omega
  have l2_12 := c12 a2 n23 aq2
  have n24 : a2 ≠ a4 := fun w => by rw [← w, l2_12.T, t8] at ga4; omega
  have l2_16 := ce_tr l2_12 (c16 a2 n24 aq2)
  have n25 : a2 ≠ a5 := fun w => by rw [← w, l2_16.T, t8] at ga5; omega
  have l2_20 := ce_tr l2_16 (c20 a2 n25 aq2)
  have n34 : a3 ≠ a4 := fun w => by rw [← w, t12] at ga4; omega
  have l3_16 := c16 a3 n34 aq3
  have n35 : a3 ≠ a5 := fun w => by rw [← w, l3_16.T, t12] at ga5; omega
  have l3_20 := ce_tr l3_16 (c20 a3 n35 aq3)
  have n45 : a4 ≠ a5 := fun w => by rw [← w, t16] at ga5; omega
  have l4_20 := c20 a4 n45 aq4
  have R0 : gR h20 300 q = some a1 := by rw [r20' _ (by omega), r16' _ (by omega), r12' _ (by omega), r8' _ (by omega)]; exact r4
  have R1 : gR h20 301 q = some a2 := by rw [r20' _ (by omega), r16' _ (by omega), r12' _ (by omega)]; exact r8
  have R2 : gR h20 302 q = some a3 := by rw [r20' _ (by omega), r16' _ (by omega)]; exact r12
  have R3 : gR h20 303 q = some a4 := by rw [r20' _ (by omega)]; exact r16
  refine ⟨q20, ?_⟩
  rw [R0]
  refine sp_fill (by rw [l1_20.T]; exact t4) (by rw [l1_20.N, n4]; omega) fun h22 f1 f2 f3 f4 => ?_
  have c22q := f4 q (Ne.symm aq1)
  have c22v := f4 vx (Ne.symm av1)
  refine ⟨by rw [c22v.T]; exact v20, ?_⟩
  intro h6 e6
  have c6 : ∀ a, a ≠ vx → ce h22 h6 a := fun a ha => by rw [e6]; exact ce_sR ha
  have w : ∀ a, a ≠ vx → a ≠ a1 → ce h20 h6 a := fun a h1 h2 => ce_tr (f4 a h2) (c6 a h1)
  have wq := w q qv (Ne.symm aq1)
  have w2 := ce_tr l2_20 (w a2 av2 (Ne.symm n12'))
  have w3 := ce_tr l3_20 (w a3 av3 (Ne.symm n13))
  have w4 := ce_tr l4_20 (w a4 av4 (Ne.symm n14))
  have w5 := w a5 av5 (Ne.symm n15)
  have w1 := c6 a1 av1
  have old : ∀ a, gT h a ≠ 0 → a ≠ q ∧ a ≠ a1 ∧ a ≠ a2 ∧ a ≠ a3 ∧ a ≠ a4 ∧ a ≠ a5 ∧ ce h h22 a := by
    intro a ha
    have aq : a ≠ q := fun w => ha (by rw [w]; exact hq)
    have k2 := s2 a aq
    have x1 : a ≠ a1 := fun w => by rw [← w, k2.T] at ga1; exact ha ga1
    have k4 := ce_tr k2 (c4 a x1 aq)
    have x2 : a ≠ a2 := fun w => by rw [← w, k4.T] at ga2; exact ha ga2
    have k8 := ce_tr k4 (c8 a x2 aq)
    have x3 : a ≠ a3 := fun w => by rw [← w, k8.T] at ga3; exact ha ga3
    have k12 := ce_tr k8 (c12 a x3 aq)
    have x4 : a ≠ a4 := fun w => by rw [← w, k12.T] at ga4; exact ha ga4
    have k16 := ce_tr k12 (c16 a x4 aq)
    have x5 : a ≠ a5 := fun w => by rw [← w, k16.T] at ga5; exact ha ga5
    have k20 := ce_tr k16 (c20 a x5 aq)
    exact ⟨aq, x1, x2, x3, x4, x5, ce_tr k20 (f4 a x1)⟩
  have cv := (old vx (by rw [hv]; decide)).2.2.2.2.2.2
  refine kk q a1 a2 a3 a4 a5 h6 (fun a => if a = q then (15, 0) else if a = a1 then (15, 1) else if a = a2 then (15, 2) else if a = a3 then (15, 3) else if a = a4 then (15, 4) else if a = a5 then (15, 5) else B a) (fun a ha => ?_) ⟨by rw [e6, gT_sR, cv.T]; exact hv, fun f => ?_, fun f => by rw [e6, gI_sR, cv.I]⟩ (by rw [wq.T]; exact q20) ⟨by rw [wq.R]; exact R0, by rw [w1.T]; exact f2, by rw [w1.N, f3, l1_20.N]; exact n4⟩ ⟨by rw [wq.R]; exact R1, by rw [w2.T]; exact t8, by rw [w2.N]; exact n8⟩ ⟨by rw [wq.R]; exact R2, by rw [w3.T]; exact t12, by rw [w3.N]; exact n12⟩ ⟨by rw [wq.R]; exact R3, by rw [w4.T]; exact t16, by rw [w4.N]; exact n16⟩ ⟨by rw [wq.R]; exact r20, by rw [w5.T]; exact t20, by rw [w5.N]; exact n20⟩ (fun i hi => by rw [w1.A]; exact f1 i (by rw [l1_20.N, n4]; exact hi)) (fun i => by rw [w4.A]; exact z16 i) (by rw [wq.I, i20, i16, i12, i8, i4]; exact z5) (by rw [wq.I, i20, i16, i12, i8, i4]; exact z6) ⟨?_, ?_, ?_, ?_, ?_, ?_⟩
  · obtain ⟨o1, o2, o3, o4, o5, o6, o7⟩ := old a ha
    refine ⟨?_, ?_, fun w => ce_tr o7 (c6 a w)⟩
    · by_cases w : a = vx
      · rw [w, e6, gT_sR, cv.T, hv]; decide
      · rw [(c6 a w).T, o7.T]; exact ha
    · simp [o1, o2, o3, o4, o5, o6]
  · rw [e6, gR_sR]
    by_cases w : f = k
    · rw [if_pos ⟨w, rfl⟩, if_pos w]
    · rw [if_neg (fun y => w y.1), if_neg w, cv.R]
  · simp
  · simp [aq1]
  · simp [aq2, Ne.symm n12']
  · simp [aq3, Ne.symm n13, Ne.symm n23]
  · simp [aq4, Ne.symm n14, Ne.symm n24, Ne.symm n34]
  · simp [aq5, Ne.symm n15, Ne.symm n25, Ne.symm n35, Ne.symm n45]
end INI
