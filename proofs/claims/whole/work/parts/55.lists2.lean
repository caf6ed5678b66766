section LS2
variable {Z : Nat → Nat} {vx : Nat} {A : Nat → Nat → Nat} {B : Nat → Nat × Nat} {h h' : HS} {d : DS} {pm : Nat → Nat}
/-- the rows of joined and the names' arrays alone are written -/
abbrev smN (A : Nat → Nat → Nat) (B : Nat → Nat × Nat) : HS → HS → Prop := sm (fun a => (B a).1 ≠ 14 ∧ a ≠ A 16 0 ∧ a ≠ A 16 1)
theorem CB.b16 (C : CB Z vx A B h d pm) {i : Nat} (hi : i < 3) : B (A 16 i) = (16, i) := by
  obtain ⟨X, V, T, N, Q, ⟨a1, a2, a3, a4⟩, ⟨b1, b2, b3, b4⟩, ⟨c1, c2, c3, c4⟩⟩ := C
  have : i = 0 ∨ i = 1 ∨ i = 2 := by omega
  rcases this with rfl | rfl | rfl
  · exact a2
  · exact b2
  · exact c2
/-- the net of the label that the turn j looks at -/
theorem sp_evs {post : Int32 → HS → Prop} (hd : WF d) (C : CB Z vx A B h d pm) (hp : PM d pm) {i s : Nat} (hi : i < nL d) (hs : s < nS d) (kk : ∀ h' r, CB Z vx A B h' d pm → sm (fun a => (B a).1 ≠ 14) h h' → ((r = -1 ∧ ∀ n, ¬ ev d pm n (16 * (nL d - 1 - i) + s)) ∨ ∃ n, r = nI n ∧ n < cnt d ∧ ev d pm n (16 * (nL d - 1 - i) + s)) → post r h') : wp_NJ_netOfLabel Z post h vx (some (A 6 (pm i))) (some (A 3 s)) := by
  have hS := hd.1.1
  have e1 : (16 * (nL d - 1 - i) + s) / 16 = nL d - 1 - i := by omega
  have e2 : (16 * (nL d - 1 - i) + s) % 16 = s := by omega
  have e3 : nL d - 1 - (nL d - 1 - i) = i := by omega
  have ee : ∀ n, ev d pm n (16 * (nL d - 1 - i) + s) ↔ inl d n (pm i) s := by
    intro n; unfold ev; rw [e1, e2, e3]; exact ⟨fun z => z.2, fun z => ⟨by omega, z⟩⟩
  refine sp_netOfLabel hd C (hp.1 i hi) hs fun h' r C' s' o => kk h' r C' s' ?_
  rcases o with ⟨o1, o2⟩ | ⟨n, o1, o2, o3⟩
  · exact Or.inl ⟨o1, fun n z => o2 n ((ee n).mp z)⟩
  · exact Or.inr ⟨n, o1, o2, (ee n).mpr o3⟩
theorem nI_dn (k : Nat) : nI k + (-1) = nI k - 1 := by
  rw [Int32.sub_eq_add_neg]
/-- phase 3 -/
theorem sp_list3 {post : HS → Prop} (hd : WF d) (hp : PM d pm) (C : CB Z vx A B h d pm) (L : NLP d pm A h 0) (kk : ∀ h', CB Z vx A B h' d pm → NL d A h' → smN A B h h' → gT h' vx = 16 ∧ ∀ h4, h4 = sI h' 14 vx (1 : Int32) → post h4) : lp (wb_NJ_listNames_143 Z post vx) (nI (nL d) - 1, h) := by
  have hS := hd.1.1
  have hL := hd.1.2.2.2.1
  refine lp_inv (fun q => ∃ k, k ≤ nL d ∧ q.1 = nI k - 1 ∧ CB Z vx A B q.2 d pm ∧ NLP d pm A q.2 (16 * (nL d - k)) ∧ smN A B h q.2) (fun q => (q.1 + 1).toNatClampNeg) ?_ _ ⟨nL d, by omega, rfl, C, by rw [Nat.sub_self]; exact L, sm_rf⟩
  rintro ⟨x1, h1⟩ K ⟨k, hk, e1, C1, L1, s1⟩ hK
  dsimp only at e1 C1 L1 s1
  subst e1
  unfold wb_NJ_listNames_143
  dsimp only
  by_cases k0 : k = 0
  · subst k0
    refine br_t (by decide) ?_
    rw [Nat.sub_zero] at L1
    obtain ⟨z1, z2⟩ := kk h1 C1 (L1.done hd hp) s1
    exact ⟨z1, Or.inr rfl, z2⟩
  obtain ⟨i, rfl⟩ : ∃ i, k = i + 1 := ⟨k - 1, by omega⟩
  rw [nI_pred]
  refine br_f (nI_pos (by omega)) ?_
  rw [show 16 * (nL d - (i + 1)) = 16 * (nL d - 1 - i) from by omega] at L1
  refine lp_inv (fun q => ∃ s, s ≤ nS d ∧ q.1 = nI i ∧ q.2.1 = nI s ∧ CB Z vx A B q.2.2 d pm ∧ NLP d pm A q.2.2 (16 * (nL d - 1 - i) + s) ∧ smN A B h q.2.2) (fun q => nS d - q.2.1.toNatClampNeg) ?_ _ ⟨0, by omega, rfl, rfl, C1, L1, s1⟩
  rintro ⟨y1, y2, h2⟩ K2 ⟨s, hs, f1, f2, C2, L2, s2⟩ hK2
  dsimp only at f1 f2 C2 L2 s2
  subst f1 f2
  have next : ∀ h3, CB Z vx A B h3 d pm → NLP d pm A h3 (16 * (nL d - 1 - i) + s + 1) → smN A B h h3 → s < nS d → wj_NJ_listNames_227 Z post K K2 vx (nI i) (nI s) h3 := by
    intro h3 C3 L3 s3 hs
    rintro y rfl
    refine hK2 _ ⟨s + 1, by omega, rfl, nI_1 s, C3, L3, s3⟩ ?_
    dsimp only
    rw [nI_1, jr_cl (by omega), jr_cl (by omega)]; omega
  have D := C2.1.1
  unfold wb_NJ_listNames_149
  dsimp only
  refine ⟨D.x, A 1 0, D.p (by omega), D.lT (by omega), sp_size D.sh (pk_le (nS d) s (fun z => ?_) (fun z => ⟨D.x, A 1 4, D.p (by omega), D.lT (by omega), sp_get C2.2.2.2.2.1 (show i < nL d by omega) ?_⟩))⟩
  · rintro y rfl
    refine hK _ ⟨i, by omega, nI_dn i, C2, ?_, s2⟩ ?_
    · rw [show 16 * (nL d - i) = 16 * (nL d - 1 - i) + 16 from by omega]
      refine L2.skip (by omega) fun n j a b w => ?_
      have := w.2.2.1
      omega
    · dsimp only
      rw [nI_dn, Int32.sub_add_cancel, Int32.sub_add_cancel, jr_cl (by omega), jr_cl (by omega)]; omega
  have pi := hp.1 i (by omega)
  obtain ⟨p1, p2, p3, p4, p5, p6⟩ := D.L pi
  obtain ⟨o1, o2, o3, o4, o5, o6⟩ := D.S z
  refine ⟨cst p1, D.x, A 1 0, D.p (by omega), D.lT (by omega), sp_get D.sh z ⟨cst o1, D.x, sp_evs hd C2 hp (by omega) z fun h3 r C3 s3 o => ?_⟩⟩
  have L3 : NLP d pm A h3 (16 * (nL d - 1 - i) + s) := L2.frame (s3 _ (by show (B (A 16 0)).1 ≠ 14; rw [C2.b16 (by omega)]; show 16 ≠ 14; decide)).A (s3 _ (by show (B (A 16 1)).1 ≠ 14; rw [C2.b16 (by omega)]; show 16 ≠ 14; decide)).A
  have s23 : smN A B h h3 := sm_tr s2 fun a ha => s3 a ha.1
  rcases o with ⟨o1, o2⟩ | ⟨n, rfl, o2, o3⟩
  · rw [o1]
    exact ⟨fun _ => next h3 C3 (L3.skip (by omega) fun n j a b w => o2 n (by rw [show 16 * (nL d - 1 - i) + s = j from by omega]; exact w)) s23 z, fun w => absurd rfl w⟩
  have c9 : cnt d ≤ 960 := cn_up _ _
  obtain ⟨⟨a1, a2, a3, a4⟩, ⟨b1, b2, b3, b4⟩, -⟩ := id C3.2.2.2.2.2
  have J16 : 16 * (nL d - 1 - i) + s < 16 * nL d := by omega
  have cl : cn (ev d pm n) (16 * (nL d - 1 - i) + s) < cv d pm n := cn_lt J16 o3
  have su1 : su (cv d pm) (n + 1) = su (cv d pm) n + cv d pm n := rfl
  have su9 := su_960 (pm := pm) hd (n + 1)
  have v0 := L3.1 n (by omega)
  refine ⟨fun w => absurd w (nI_m1 (by omega)), fun _ => ⟨C3.1.1.x, A 16 0, a1, a3, by rw [a4]; exact pk_in n _ (by omega), A 16 0, a1, a3, by rw [a4]; exact pk_in n _ (by omega), ?_⟩⟩
  rw [jr_cl (by omega), v0]
  intro h4 e4
  obtain ⟨g, hg⟩ : ∃ g, g + 1 = su (cv d pm) (n + 1) - cn (ev d pm n) (16 * (nL d - 1 - i) + s) := ⟨su (cv d pm) (n + 1) - cn (ev d pm n) (16 * (nL d - 1 - i) + s) - 1, by omega⟩
  rw [← hg, nI_pred] at e4
  obtain ⟨C4, v4⟩ := C3.w (by omega) e4
  have g0 : ∀ n', gA h4 (A 16 0) n' = if n' = n then nI g else gA h3 (A 16 0) n' := by
    intro n'; rw [e4, gA_sA]
    by_cases w : n' = n
    · rw [if_pos ⟨rfl, w⟩, if_pos w]
    · rw [if_neg (fun y => w y.2), if_neg w]
  have g1 : gA h4 (A 16 1) = gA h3 (A 16 1) := by rw [e4]; exact gA_other _ _ _ (C3.n16 (by omega) (by omega) (by omega))
  have s34 : smN A B h3 h4 := by rw [e4]; exact fun a ha => ce_sA ha.2.1
  clear e4
  obtain ⟨⟨a1, a2, a3, a4⟩, ⟨b1, b2, b3, b4⟩, -⟩ := id C4.2.2.2.2.2
  have D4 := C4.1.1
  refine ⟨D4.x, D4.x, A 16 0, a1, a3, by rw [a4]; exact pk_in n _ (by omega), D4.x, A 1 4, D4.p (by omega), D4.lT (by omega), sp_get C4.2.2.2.2.1 (show i < nL d by omega) ?_⟩
  obtain ⟨p1, p2, p3, p4, p5, p6⟩ := D4.L pi
  refine ⟨cst p1, A 6 (pm i), rfl, p1, A 16 1, b1, b3, ?_⟩
  rw [g0, if_pos rfl, p5, jr_cl (by omega)]
  refine ⟨by rw [b4]; exact pk_in g _ (by omega), ?_⟩
  intro h5 e5
  obtain ⟨C5, v5⟩ := C4.w (by omega) e5
  have s45 : smN A B h4 h5 := by rw [e5]; exact fun a ha => ce_sA ha.2.2
  refine next h5 C5 (NLP.put hd hp L3 o3 (fun n' => ?_) fun q => ?_) (sm_tr s23 (sm_tr s34 s45)) z
  · rw [e5, gA_other _ _ _ (C4.n16 (by omega) (by omega) (by omega)), g0, ← hg]; rfl
  · rw [e5, gA_sA, ← hg]
    show _ = if q = g then _ else _
    by_cases w : q = g
    · rw [if_pos ⟨rfl, w⟩, if_pos w]
      unfold nam
      rw [show nL d - 1 - (16 * (nL d - 1 - i) + s) / 16 = i from by omega]
    · rw [if_neg (fun y => w y.2), if_neg w, g1]
/-- phase 2: sums -/
theorem sp_list2 {post : HS → Prop} (hd : WF d) (hp : PM d pm) (C : CB Z vx A B h d pm) (L : ∀ n, n ≤ cnt d → gA h (A 16 0) n = nI (cv d pm n)) (kk : ∀ h', CB Z vx A B h' d pm → NL d A h' → smN A B h h' → gT h' vx = 16 ∧ ∀ h4, h4 = sI h' 14 vx (1 : Int32) → post h4) : lp (wb_NJ_listNames_99 Z post vx) ((1 : Int32), h) := by
  have c9 : cnt d ≤ 960 := cn_up _ _
  refine lp_inv (fun q => ∃ i, 1 ≤ i ∧ i ≤ cnt d + 1 ∧ q.1 = nI i ∧ CB Z vx A B q.2 d pm ∧ (∀ n, n < i → gA q.2 (A 16 0) n = nI (su (cv d pm) (n + 1))) ∧ (∀ n, i ≤ n → n ≤ cnt d → gA q.2 (A 16 0) n = nI (cv d pm n)) ∧ smN A B h q.2) (fun q => cnt d + 1 - q.1.toNatClampNeg) ?_ _ ⟨1, by omega, by omega, rfl, C, fun n hn => ?_, fun n _ hn => L n hn, sm_rf⟩
  rotate_left
  · rw [show n = 0 from by omega, L 0 (by omega)]
    show _ = nI (0 + cv d pm 0)
    rw [Nat.zero_add]
  rintro ⟨x1, h1⟩ K ⟨i, i1, i2, e1, C1, L1, M1, s1⟩ hK
  dsimp only at e1 C1 L1 M1 s1
  subst e1
  obtain ⟨X, V, T, N, Q, ⟨a1, a2, a3, a4⟩, -⟩ := id C1
  obtain ⟨le, nt, sz, W, ⟨d1, d2, d3, d4, d5⟩, -⟩ := N
  unfold wb_NJ_listNames_99
  dsimp only
  refine ⟨X.1.x, A 15 0, T.1.1, T.2.1, ?_⟩
  rw [d4]
  refine pk_lt (cnt d) i (fun z => ⟨X.1.x, A 1 4, X.1.p (by omega), X.1.lT (by omega), sp_size Q ?_⟩) (fun z => ⟨X.1.x, A 16 0, a1, a3, by rw [a4]; exact pk_in i _ (by omega), X.1.x, A 16 0, a1, a3, ?_⟩)
  · rintro y rfl
    exact sp_list3 hd hp C1 (NLP.start fun n hn => L1 n (by omega)) fun h' C' N' s' => kk h' C' N' (sm_tr s1 s')
  obtain ⟨j, rfl⟩ : ∃ j, i = j + 1 := ⟨i - 1, by omega⟩
  rw [nI_pred, a4]
  refine ⟨pk_in j _ (by omega), A 16 0, a1, a3, by rw [a4]; exact pk_in (j + 1) _ (by omega), ?_⟩
  rw [jr_cl (by omega), jr_cl (by omega), L1 j (by omega), M1 (j + 1) (by omega) (by omega), nI_add]
  intro h2 e2
  obtain ⟨C2, v2⟩ := C1.w (by omega) e2
  rintro y rfl
  refine hK _ ⟨j + 1 + 1, by omega, by omega, nI_1 _, C2, fun n hn => ?_, fun n hn hc => ?_, sm_tr s1 (by rw [e2]; exact fun a ha => ce_sA ha.2.1)⟩ ?_
  · dsimp only
    rw [e2, gA_sA]
    by_cases w : n = j + 1
    · rw [if_pos ⟨rfl, w⟩, w]
      show _ = nI (su (cv d pm) (j + 1) + cv d pm (j + 1))
      rw [Nat.add_comm]
    · rw [if_neg (fun y => w y.2)]; exact L1 n (by omega)
  · dsimp only
    rw [e2, gA_sA, if_neg (by omega)]
    exact M1 n (by omega) hc
  · dsimp only
    rw [nI_1, jr_cl (by omega), jr_cl (by omega)]; omega
theorem CB.f (C : CB Z vx A B h d pm) (s : sm (fun b => b ≠ A 16 0) h h') (t : gT h' (A 16 0) = 1) (n : gN h' (A 16 0) = 961) : CB Z vx A B h' d pm := by
  have b := C.bx
  have B16 := C.b16 (i := 0) (by omega)
  have n1 := C.n16 (i := 1) (j := 0) (by omega) (by omega) (by omega)
  have n2 := C.n16 (i := 2) (j := 0) (by omega) (by omega) (by omega)
  have s' : ∀ a, (B a).1 ≠ 16 → ce h h' a := fun a ha => s a fun w => ha (by rw [w, B16])
  obtain ⟨X, V, T, N, Q, R⟩ := C
  have cv : cvx vx h h' := cvx.of (s' vx (by rw [b]; decide))
  have m : ∀ lo hi, hi ≤ 15 → mv lo hi A A B B h h' := fun lo hi w => mv.of fun a h1 h2 => s' a (by omega)
  obtain ⟨X', V'⟩ := X.go V cv b (m 1 14 (by omega))
  obtain ⟨T', t1, t2⟩ := T.go cv b (m 15 15 (by omega))
  refine ⟨X', V', T', N.go t1 t2, Q.go X.1 V (m 1 10 (by omega)), ?_⟩
  obtain ⟨⟨a1, a2, a3, a4⟩, ⟨b1, b2, b3, b4⟩, ⟨c1, c2, c3, c4⟩⟩ := R
  exact ⟨⟨by rw [cv.2]; exact a1, a2, t, n⟩, ⟨by rw [cv.2]; exact b1, b2, by rw [(s _ n1).T]; exact b3, by rw [(s _ n1).N]; exact b4⟩, ⟨by rw [cv.2]; exact c1, c2, by rw [(s _ n2).T]; exact c3, by rw [(s _ n2).N]; exact c4⟩⟩
/-- phase 1: counts -/
theorem sp_list1 {post : HS → Prop} (hd : WF d) (hp : PM d pm) (C : CB Z vx A B h d pm) (L : ∀ n, n ≤ cnt d → gA h (A 16 0) n = 0) (kk : ∀ h', CB Z vx A B h' d pm → NL d A h' → smN A B h h' → gT h' vx = 16 ∧ ∀ h4, h4 = sI h' 14 vx (1 : Int32) → post h4) : lp (wb_NJ_listNames_26 Z post vx) (nI (nL d) - 1, h) := by
  have hS := hd.1.1
  have hL := hd.1.2.2.2.1
  have c9 : cnt d ≤ 960 := cn_up _ _
  refine lp_inv (fun q => ∃ k, k ≤ nL d ∧ q.1 = nI k - 1 ∧ CB Z vx A B q.2 d pm ∧ (∀ n, n ≤ cnt d → gA q.2 (A 16 0) n = nI (cn (ev d pm n) (16 * (nL d - k)))) ∧ smN A B h q.2) (fun q => (q.1 + 1).toNatClampNeg) ?_ _ ⟨nL d, by omega, rfl, C, fun n hn => by dsimp only; rw [Nat.sub_self, L n hn]; rfl, sm_rf⟩
  rintro ⟨x1, h1⟩ K ⟨k, hk, e1, C1, L1, s1⟩ hK
  dsimp only at e1 C1 L1 s1
  subst e1
  unfold wb_NJ_listNames_26
  dsimp only
  by_cases k0 : k = 0
  · subst k0
    refine br_t (by decide) ?_
    rw [Nat.sub_zero] at L1
    exact sp_list2 hd hp C1 L1 fun h' C' N' s' => kk h' C' N' (sm_tr s1 s')
  obtain ⟨i, rfl⟩ : ∃ i, k = i + 1 := ⟨k - 1, by omega⟩
  rw [nI_pred]
  refine br_f (nI_pos (by omega)) ?_
  rw [show 16 * (nL d - (i + 1)) = 16 * (nL d - 1 - i) from by omega] at L1
  refine lp_inv (fun q => ∃ s, s ≤ nS d ∧ q.1 = nI i ∧ q.2.1 = nI s ∧ CB Z vx A B q.2.2 d pm ∧ (∀ n, n ≤ cnt d → gA q.2.2 (A 16 0) n = nI (cn (ev d pm n) (16 * (nL d - 1 - i) + s))) ∧ smN A B h q.2.2) (fun q => nS d - q.2.1.toNatClampNeg) ?_ _ ⟨0, by omega, rfl, rfl, C1, L1, s1⟩
  rintro ⟨y1, y2, h2⟩ K2 ⟨s, hs, f1, f2, C2, L2, s2⟩ hK2
  dsimp only at f1 f2 C2 L2 s2
  subst f1 f2
  have next : ∀ h3, CB Z vx A B h3 d pm → (∀ n, n ≤ cnt d → gA h3 (A 16 0) n = nI (cn (ev d pm n) (16 * (nL d - 1 - i) + s + 1))) → smN A B h h3 → s < nS d → wj_NJ_listNames_85 Z post K K2 vx (nI i) (nI s) h3 := by
    intro h3 C3 L3 s3 hs
    rintro y rfl
    refine hK2 _ ⟨s + 1, by omega, rfl, nI_1 s, C3, L3, s3⟩ ?_
    dsimp only
    rw [nI_1, jr_cl (by omega), jr_cl (by omega)]; omega
  have D := C2.1.1
  unfold wb_NJ_listNames_32
  dsimp only
  refine ⟨D.x, A 1 0, D.p (by omega), D.lT (by omega), sp_size D.sh (pk_le (nS d) s (fun z => ?_) (fun z => ⟨D.x, A 1 4, D.p (by omega), D.lT (by omega), sp_get C2.2.2.2.2.1 (show i < nL d by omega) ?_⟩))⟩
  · rintro y rfl
    refine hK _ ⟨i, by omega, nI_dn i, C2, fun n hn => ?_, s2⟩ ?_
    · dsimp only
      rw [show 16 * (nL d - i) = 16 * (nL d - 1 - i) + 16 from by omega, cn_skip (P := ev d pm n) (m := 16 * (nL d - 1 - i) + s) (by omega) fun j a b w => ?_]
      · exact L2 n hn
      · have := w.2.2.1
        omega
    · dsimp only
      rw [nI_dn, Int32.sub_add_cancel, Int32.sub_add_cancel, jr_cl (by omega), jr_cl (by omega)]; omega
  have pi := hp.1 i (by omega)
  obtain ⟨p1, p2, p3, p4, p5, p6⟩ := D.L pi
  obtain ⟨o1, o2, o3, o4, o5, o6⟩ := D.S z
  refine ⟨cst p1, D.x, A 1 0, D.p (by omega), D.lT (by omega), sp_get D.sh z ⟨cst o1, D.x, sp_evs hd C2 hp (by omega) z fun h3 r C3 s3 o => ?_⟩⟩
  have L3 : ∀ n, n ≤ cnt d → gA h3 (A 16 0) n = nI (cn (ev d pm n) (16 * (nL d - 1 - i) + s)) := fun n hn => by
    rw [(s3 _ (by show (B (A 16 0)).1 ≠ 14; rw [C2.b16 (by omega)]; show 16 ≠ 14; decide)).A]; exact L2 n hn
  have s23 : smN A B h h3 := sm_tr s2 fun a ha => s3 a ha.1
  rcases o with ⟨o1, o2⟩ | ⟨n, rfl, o2, o3⟩
  · rw [o1]
    exact ⟨fun _ => next h3 C3 (fun n hn => by rw [cn_n (o2 n)]; exact L3 n hn) s23 z, fun w => absurd rfl w⟩
  obtain ⟨⟨a1, a2, a3, a4⟩, -⟩ := id C3.2.2.2.2.2
  refine ⟨fun w => absurd w (nI_m1 (by omega)), fun _ => ⟨C3.1.1.x, A 16 0, a1, a3, by rw [a4]; exact pk_in n _ (by omega), A 16 0, a1, a3, by rw [a4]; exact pk_in n _ (by omega), ?_⟩⟩
  rw [jr_cl (by omega), L3 n (by omega), nI_1]
  intro h4 e4
  obtain ⟨C4, v4⟩ := C3.w (by omega) e4
  refine next h4 C4 (fun n' hn' => ?_) (sm_tr s23 (by rw [e4]; exact fun a ha => ce_sA ha.2.1)) z
  rw [e4, gA_sA]
  by_cases w : n' = n
  · rw [if_pos ⟨rfl, w⟩, w, cn_s o3]
  · rw [if_neg (fun y => w y.2), cn_n (fun y => w (ev_u y o3))]; exact L3 n' hn'
theorem sp_listNames {post : HS → Prop} (hd : WF d) (hp : PM d pm) (C : CB Z vx A B h d pm) (L0 : ¬ gI h 14 vx = 0 → NL d A h) (kk : ∀ h', CB Z vx A B h' d pm → NL d A h' → ¬ gI h' 14 vx = 0 → (∀ f, f ≠ 14 → gI h' f vx = gI h f vx) → cvx vx h h' → sm (fun a => (B a).1 ≠ 14 ∧ (B a).1 ≠ 16 ∧ a ≠ vx) h h' → gA h' (A 16 2) = gA h (A 16 2) → post h') : wp_NJ_listNames Z post h vx := by
  have hS := hd.1.1
  have hL := hd.1.2.2.2.1
  have c9 : cnt d ≤ 960 := cn_up _ _
  have bx := C.bx
  refine ⟨C.1.1.x, fun z => ⟨C.1.1.x, ?_⟩, fun z => kk h C (L0 z) z (fun _ _ => rfl) cvx.rf sm_rf rfl⟩
  obtain ⟨⟨a1, a2, a3, a4⟩, -⟩ := id C.2.2.2.2.2
  rw [a1]
  refine sp_fill a3 (by omega) fun h1 f1 f2 f3 f4 => ?_
  have C1 := C.f f4 f2 (by rw [f3]; exact a4)
  refine ⟨C1.1.1.x, A 1 4, C1.1.1.p (by omega), C1.1.1.lT (by omega), sp_size C1.2.2.2.2.1 ?_⟩
  rintro y rfl
  refine sp_list1 hd hp C1 (fun n hn => f1 n (by omega)) fun h2 C2 N2 s2 => ⟨C2.1.1.x, ?_⟩
  intro h3 e3
  have v3 : cvx vx h2 h3 := by rw [e3]; exact cvx.sI
  have m3 : mv 1 16 A A B B h2 h3 := by rw [e3]; exact flag_mv bx (by omega)
  have C3 := C2.go v3 m3
  have b16 := C.b16 (i := 2) (by omega)
  have s02 : ∀ a, (B a).1 ≠ 14 → (B a).1 ≠ 16 → ce h h2 a := fun a ha hb => ce_tr (f4 a fun w => hb (by rw [w, a2])) (s2 a ⟨ha, fun w => hb (by rw [w, a2]), fun w => hb (by rw [w, C.b16 (i := 1) (by omega)])⟩)
  have sv := s02 vx (by rw [bx]; decide) (by rw [bx]; decide)
  refine kk h3 C3 ?_ ?_ (fun f hf => ?_) ((cvx.of sv).tr v3) (fun a ha => ce_tr (s02 a ha.1 ha.2.1) (by rw [e3]; exact ce_sI ha.2.2)) ?_
  · unfold NL at N2 ⊢
    rw [e3]
    simp only [gA_sI]
    exact N2
  · rw [e3, gI_sI, if_pos ⟨rfl, rfl⟩]; decide
  · rw [e3, gI_sI, if_neg (fun w => hf w.1), sv.I]
  · rw [e3, gA_sI, (s2 (A 16 2) ⟨by rw [b16]; show 16 ≠ 14; decide, C.n16 (by omega) (by omega) (by omega), C.n16 (by omega) (by omega) (by omega)⟩).A, (f4 (A 16 2) (C.n16 (by omega) (by omega) (by omega))).A]
end LS2
