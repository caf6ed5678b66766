section RAN
variable {Z : Nat → Nat} {vm : Nat} {R : Nat → Nat} {B : Nat → Nat × Nat} {h h' : HS} {d c : DS} {ld : Nat → Nat}
theorem NE.get {K : Nat} (N : NE vm R h d ld 960) (hk : K < 960) : (vR d K → gA h (R 827) K = nI (nn d K)) ∧ (¬ vR d K → gA h (R 827) K = -1) := by
  obtain ⟨a, b⟩ := N.2.1 K hk
  exact ⟨fun v => a ⟨hk, v⟩, fun v => b fun w => v w.2⟩
/-- of the net n: the first copy's code -/
theorem net_first (hd : WF d) {n : Nat} (hn : n < cnt d) : ∃ k, k < 960 ∧ fst d k ∧ nn d k = n ∧ ∀ j, j < k → vR d j → nn d j ≠ n := by
  obtain ⟨k, k1, k2, k3⟩ := cn_ex (P := fst d) (N := 960) hn
  have e : nn d k = n := by rw [nn_fst k2, k3]
  refine ⟨k, k1, k2, e, fun j hj vj ej => k2.2 j hj vj ((nn_eq vj k2.1).mp (by rw [ej, e]))⟩
theorem r_wasThere {post : Int32 → HS → Prop} {n : Nat} (hc : WF c) (hd : WF d) (S : RS vm R B h) (N : NE vm R h d ld 960) (O : NBf R h c) (hn : n < cnt d) (k1 : ¬ Chg c d n → post 1 h) (k0 : Chg c d n → post 0 h) : wp_Mod_wasThere Z post h vm (nI n) := by
  have c9 : cnt d ≤ 960 := cn_up _ _
  obtain ⟨k, kl, kf, kn, kb⟩ := net_first hd hn
  have is : ∀ j, j < 960 → (gA h (R 827) j = nI n ↔ (vR d j ∧ nn d j = n)) := by
    intro j hj
    obtain ⟨a, b⟩ := N.get hj
    by_cases v : vR d j
    · have := nn_lt hd v
      rw [a v, nI_eq (by omega) (by omega)]
      exact ⟨fun e => ⟨v, e⟩, fun e => e.2⟩
    · rw [b v]
      exact ⟨fun e => absurd e.symm (nI_m1 (by omega)), fun e => absurd e.1 v⟩
  refine lp_inv (fun q => ∃ i, i ≤ k ∧ q = (nI n, nI i, h)) (fun q => k - q.2.1.toNatClampNeg) ?_ _ ⟨0, by omega, rfl⟩
  rintro q K ⟨i, hi, rfl⟩ hK
  unfold wb_Mod_wasThere_2
  dsimp only
  refine ⟨S.1, S.rd 827 1 i rfl (by decide) (by show i < 960; omega) ?_⟩
  rw [jr_cl (by omega), is i (by omega)]
  by_cases z : i = k
  · subst z
    refine ⟨fun _ => ⟨S.1, S.rd 828 1 i rfl (by decide) kl ?_⟩, fun w => absurd ⟨kf.1, kn⟩ w⟩
    rintro y rfl
    obtain ⟨o1, o2⟩ := O i kl
    by_cases v : vR c i
    · have nc := nn_lt hc v
      rw [o1 v]
      refine ⟨fun _ => ?_, fun w => absurd w (nI_m1 (by omega))⟩
      have was : ∀ j, j < 960 → (gA h (R 828) j = nI (nn c i) ↔ (vR c j ∧ RR c j i)) := by
        intro j hj
        obtain ⟨a, b⟩ := O j hj
        by_cases w : vR c j
        · have := nn_lt hc w
          rw [a w, nI_eq (by omega) (by omega), nn_eq w v]
          exact ⟨fun e => ⟨w, e⟩, fun e => e.2⟩
        · rw [b w]
          exact ⟨fun e => absurd e.symm (nI_m1 (by omega)), fun e => absurd e.1 w⟩
      have chg : (∀ j, j < 960 → ((vR d j ∧ nn d j = n) ↔ (vR c j ∧ RR c j i))) ↔ ¬ Chg c d n := by
        constructor
        · intro w y
          refine y ⟨i, v, fun j => ?_⟩
          by_cases x : j < 960
          · exact w j x
          · exact ⟨fun q => absurd (vR_lt hd q.1) x, fun q => absurd (vR_lt hc q.1) x⟩
        · intro y
          obtain ⟨k', v', w⟩ := Classical.byContradiction y
          have := (w i).mp ⟨kf.1, kn⟩
          intro j _
          rw [w j]
          exact ⟨fun q => ⟨q.1, q.2.tr this.2.sy⟩, fun q => ⟨q.1, q.2.tr this.2⟩⟩
      refine lp_inv (fun q => ∃ j sa, j ≤ 960 ∧ q = (nI n, nI (nn c i), sa, nI j, h) ∧ ((sa = 1 ∧ ∀ m, m < j → ((vR d m ∧ nn d m = n) ↔ (vR c m ∧ RR c m i))) ∨ (sa = 0 ∧ Chg c d n))) (fun q => 960 - q.2.2.2.1.toNatClampNeg) ?_ _ ⟨0, 1, by omega, rfl, Or.inl ⟨rfl, fun m hm => absurd hm (Nat.not_lt_zero _)⟩⟩
      rintro q K2 ⟨j, sa, hj, rfl, o⟩ hK2
      have next : ∀ sa', j < 960 → ((sa' = 1 ∧ ∀ m, m < j + 1 → ((vR d m ∧ nn d m = n) ↔ (vR c m ∧ RR c m i))) ∨ (sa' = 0 ∧ Chg c d n)) → wj_Mod_wasThere_91 Z post K2 vm (nI n) (nI (nn c i)) (nI j) sa' h := by
        intro sa' hj o
        rintro y rfl
        refine hK2 _ ⟨j + 1, sa', by omega, by rw [nI_1], o⟩ ?_
        dsimp only
        rw [nI_1, jr_cl (by omega), jr_cl (by omega)]; omega
      unfold wb_Mod_wasThere_38
      dsimp only
      refine pk_le 960 j (fun y => ?_) (fun y => ⟨fun e => ?_, fun e => ⟨S.1, S.rd 827 1 j rfl (by decide) y ?_⟩⟩)
      · rcases o with ⟨o1, o2⟩ | ⟨o1, o2⟩
        · rw [o1]; exact ⟨Or.inr rfl, k1 (chg.mp fun m hm => o2 m (by omega))⟩
        · rw [o1]; exact ⟨Or.inl rfl, k0 o2⟩
      · rcases o with ⟨o1, o2⟩ | ⟨o1, o2⟩
        · rw [o1] at e; exact absurd e (by decide)
        · exact next 0 y (Or.inr ⟨rfl, o2⟩)
      have o' : ∀ m, m < j → ((vR d m ∧ nn d m = n) ↔ (vR c m ∧ RR c m i)) := by
        rcases o with ⟨o1, o2⟩ | ⟨o1, o2⟩
        · exact o2
        · exact absurd o1 e
      have same : ((vR d j ∧ nn d j = n) ↔ (vR c j ∧ RR c j i)) → wj_Mod_wasThere_91 Z post K2 vm (nI n) (nI (nn c i)) (nI j) 1 h := fun w => next 1 y (Or.inl ⟨rfl, fun m hm => by
        by_cases x : m = j
        · subst x; exact w
        · exact o' m (by omega)⟩)
      have diff : ¬ ((vR d j ∧ nn d j = n) ↔ (vR c j ∧ RR c j i)) → wj_Mod_wasThere_91 Z post K2 vm (nI n) (nI (nn c i)) (nI j) 0 h := fun w => next 0 y (Or.inr ⟨rfl, Classical.byContradiction fun x => w (chg.mpr x j y)⟩)
      rw [jr_cl (by omega), is j y]
      have rd : ∀ s0 : Int32, ((s0 = 1 ∧ (vR d j ∧ nn d j = n)) ∨ (s0 = 0 ∧ ¬ (vR d j ∧ nn d j = n))) → wj_Mod_wasThere_67 Z post K2 vm (nI n) (nI (nn c i)) (nI j) s0 h := by
        intro s0 os
        refine ⟨S.1, S.rd 828 1 j rfl (by decide) y ?_⟩
        rw [jr_cl (by omega), was j y]
        rcases os with ⟨rfl, os⟩ | ⟨rfl, os⟩
        · exact ⟨fun w => ⟨fun _ => diff fun x => w (x.mp os), fun x => absurd x (by decide)⟩, fun w => ⟨fun x => absurd rfl x, fun _ => same ⟨fun _ => w, fun _ => os⟩⟩⟩
        · exact ⟨fun w => ⟨fun x => absurd rfl x, fun _ => same ⟨fun x => absurd x os, fun x => absurd x w⟩⟩, fun w => ⟨fun _ => diff fun x => os (x.mpr w), fun x => absurd x (by decide)⟩⟩
      exact ⟨fun w => rd 0 (Or.inr ⟨rfl, w⟩), fun w => rd 1 (Or.inl ⟨rfl, w⟩)⟩
    · rw [o2 v]
      refine ⟨fun w => absurd rfl w, fun _ => k0 fun ⟨k', v', w⟩ => v ((w i).mp ⟨kf.1, kn⟩).1⟩
  · refine ⟨fun w => absurd w.2 (kb i (by omega) w.1), fun _ => ?_⟩
    rintro y rfl
    refine hK _ ⟨i + 1, by omega, by rw [nI_1]⟩ ?_
    dsimp only
    rw [nI_1, jr_cl (by omega), jr_cl (by omega)]; omega
theorem r_anew {post : HS → Prop} (hc : WF c) (hd : WF d) (S : RS vm R B h) (D : RD vm R h d) (O : OLD vm R h c) (kk : ∀ h', KR vm R B h' d (Chg c d) → gI h' 831 vm = nI (cn (Chg c d) (cnt d)) → (∀ f, f ≠ 829 → f ≠ 831 → f ≠ 832 → gI h' f vm = gI h f vm) → sm20 B h h' → post h') : wp_Mod_anew Z post h vm := by
  have c9 : cnt d ≤ 960 := cn_up _ _
  -- the nets are looked at
  have look : ∀ (ld : Nat → Nat) h0, LD ld (SR d) → XL vm R B h0 d ld → NE vm R h0 d ld 960 → NBf R h0 c → ¬ gI h0 832 vm = 0 → gI h0 831 vm = 0 → (∀ f, f ≠ 829 → f ≠ 831 → f ≠ 832 → gI h0 f vm = gI h f vm) → sm20 B h h0 → lp (wb_Mod_anew_58 Z post vm) ((0 : Int32), h0) := by
    intro ld h0 L0 X0 N0 O0 f0 z0 i0 s0
    refine lp_inv (fun q => ∃ n h1, n ≤ cnt d ∧ q = (nI n, h1) ∧ XL vm R B h1 d ld ∧ NE vm R h1 d ld 960 ∧ NBf R h1 c ∧ ¬ gI h1 832 vm = 0 ∧ gI h1 831 vm = nI (cn (Chg c d) n) ∧ (∀ m, m < n → (¬ gA h1 (R 830) m = 0 ↔ Chg c d m)) ∧ (∀ f, f ≠ 829 → f ≠ 831 → f ≠ 832 → gI h1 f vm = gI h f vm) ∧ sm20 B h h1) (fun q => cnt d - q.1.toNatClampNeg) ?_ _ ⟨0, h0, by omega, rfl, X0, N0, O0, f0, z0, fun m hm => absurd hm (Nat.not_lt_zero _), i0, s0⟩
    rintro q K ⟨n, h1, hn, rfl, X1, N1, O1, f1, z1, I1, i1, s1⟩ hK
    have e829 : gI h1 829 vm = nI (cnt d) := N1.1
    unfold wb_Mod_anew_58
    dsimp only
    refine ⟨X1.1.1, ?_⟩
    rw [e829]
    refine pk_le (cnt d) n (fun z => kk h1 ⟨X1.1, X1.2.1, e829, fun m hm => I1 m (by omega), Or.inr ⟨f1, ld, X1.2.2, L0, N1⟩⟩ (by rw [z1, show n = cnt d from by omega]) i1 s1) (fun z => ⟨X1.1.1, X1.1.1, ?_⟩)
    obtain ⟨q1, q2, q3, q4⟩ := X1.1.2.2 830 (by decide)
    have put : ∀ v : Int32, ((v = 1 ∧ Chg c d n) ∨ (v = 0 ∧ ¬ Chg c d n)) → wj_Mod_anew_84 Z post K vm (nI n) v (nI n) (gR h1 830 vm) h1 := by
      intro v ov
      have v01 : v = 0 ∨ v = 1 := ov.elim (fun w => Or.inr w.1) (fun w => Or.inl w.1)
      rw [q1]
      refine ⟨R 830, rfl, q3, by rw [q4]; exact pk_in n _ (by show n < 960; omega) rfl (rN_lt _), v01, ?_⟩
      intro h2 e2
      rw [jr_cl (by omega)] at e2
      obtain ⟨S2, s2, I2, c2, a2⟩ := X1.1.wA (by decide) e2
      have X2 := X1.wA (by decide) (by omega) e2
      clear e2
      have add : ∀ w : Int32, nI (cn (Chg c d) n) + w = nI (cn (Chg c d) (n + 1)) → wj_Mod_anew_104 Z post K vm (nI n) w (gI h2 831 vm) (some vm) h2 := by
        intro w ew
        refine ⟨vm, rfl, X2.1.1, ?_⟩
        intro h3 e3
        rw [I2, z1, ew] at e3
        obtain ⟨S3, s3, I3, c3⟩ := X2.1.wI e3
        rintro y rfl
        refine hK _ ⟨n + 1, h3, by omega, by rw [nI_1], X2.wI (by omega) e3, ?_, ?_, ?_, ?_, fun m hm => ?_, fun f a b e => by rw [I3, if_neg b, I2]; exact i1 f a b e, sm_tr s1 (sm_tr s2 s3)⟩ ?_
        · unfold NE at N1 ⊢
          rw [I3, if_neg (by omega), I2, (c3 827 (by decide)).A, (c2 827 (by omega) (by decide)).A, (c3 826 (by decide)).A, (c2 826 (by omega) (by decide)).A]; exact N1
        · unfold NBf at O1 ⊢
          rw [(c3 828 (by decide)).A, (c2 828 (by omega) (by decide)).A]; exact O1
        · rw [I3, if_neg (by omega), I2]; exact f1
        · rw [I3, if_pos rfl]
        · rw [(c3 830 (by decide)).A, a2]
          by_cases x : m = n
          · rw [if_pos x, x]
            rcases ov with ⟨o1, o2⟩ | ⟨o1, o2⟩
            · rw [o1]; exact ⟨fun _ => o2, fun _ => by decide⟩
            · rw [o1]; exact ⟨fun y => absurd rfl y, fun y => absurd y o2⟩
          · rw [if_neg x]; exact I1 m (by omega)
        · dsimp only
          rw [nI_1, jr_cl (by omega), jr_cl (by omega)]; omega
      refine ⟨X2.1.1, X2.1.1, X2.1.rd 830 2 n rfl (by decide) (by show n < 960; omega) ?_⟩
      rw [jr_cl (by omega), a2, if_pos rfl]
      rcases ov with ⟨rfl, o2⟩ | ⟨rfl, o2⟩
      · exact ⟨fun y => absurd y (by decide), fun _ => add 1 (by rw [nI_1, cn_s o2])⟩
      · exact ⟨fun _ => add 0 (by rw [cn_n o2, show (0 : Int32) = nI 0 from rfl, nI_add, Nat.add_zero]), fun y => absurd rfl y⟩
    refine r_wasThere hc hd X1.1 N1 O1 z (fun w => ⟨fun _ => put 0 (Or.inr ⟨rfl, w⟩), fun y => absurd y (by decide)⟩) (fun w => ⟨fun y => absurd rfl y, fun _ => put 1 (Or.inl ⟨rfl, w⟩)⟩)
  -- what was there is kept
  refine lp_inv (fun q => ∃ k h1, k ≤ 960 ∧ q = (nI k, h1) ∧ RS vm R B h1 ∧ RD vm R h1 d ∧ (∀ f, gI h1 f vm = gI h f vm) ∧ (gA h1 (R 827) = gA h (R 827)) ∧ (∀ j, j < k → (vR c j → gA h1 (R 828) j = nI (nn c j)) ∧ (¬ vR c j → gA h1 (R 828) j = -1)) ∧ sm20 B h h1) (fun q => 960 - q.1.toNatClampNeg) ?_ _ ⟨0, h, by omega, rfl, S, D, fun _ => rfl, rfl, fun j hj => absurd hj (Nat.not_lt_zero _), sm_rf⟩
  rintro q K ⟨k, h1, hk, rfl, S1, D1, i1, a1, o1, s1⟩ hK
  unfold wb_Mod_anew_2
  dsimp only
  refine pk_le 960 k (fun z => ⟨S1.1, Or.inr rfl, ?_⟩) (fun z => ⟨S1.1, S1.1, ?_⟩)
  · intro h2 e2
    obtain ⟨S2, s2, I2, c2⟩ := S1.wI e2
    have D2 : RD vm R h2 d := D1.frame (fun g _ _ => by rw [I2, if_neg (by omega)]) fun g _ _ hk => ⟨(c2 g hk).A, (c2 g hk).L⟩
    clear e2
    refine ⟨S2.1, r_joinAll hd S2 D2 fun h3 X3 s3 => ⟨X3.1.1, ?_⟩⟩
    obtain ⟨m1, m2⟩ := RAl_SR hd
    obtain ⟨S3, D3, ld, N3, L3⟩ := X3.mo m1 m2
    have s3' : sm20 B h2 h3 := fun a ha => s3 a fun w => ha (by rw [w, (S2.2.2 825 (by decide)).2.1])
    have v3 := s3 vm (Ne.symm (S2.nv (f := 825) (by decide)))
    have c3 : ∀ g, g ≠ 825 → rK g ≠ 0 → ce h2 h3 (R g) := fun g hg hk => s3 _ (S2.ne hk (by decide) hg)
    refine r_number hd L3 ⟨S3, D3, N3⟩ fun h4 X4 N4 s4 i4 g4 => ⟨X4.1.1, ?_⟩
    intro h5 e5
    obtain ⟨S5, s5, I5, c5⟩ := X4.1.wI e5
    have e828 : gA h5 (R 828) = gA h1 (R 828) := by rw [(c5 828 (by decide)).A, (g4 828 (by omega) (by omega) (by decide)).A, (c3 828 (by omega) (by decide)).A, (c2 828 (by decide)).A]
    refine look ld h5 L3 (X4.wI (by omega) e5) ?_ ?_ ?_ (by rw [I5, if_pos rfl]) (fun f a b e => ?_) (sm_tr s1 (sm_tr s2 (sm_tr s3' (sm_tr s4 s5))))
    · unfold NE at N4 ⊢
      rw [I5, if_neg (by omega), (c5 827 (by decide)).A, (c5 826 (by decide)).A]; exact N4
    · unfold NBf
      rw [e828]; exact fun j hj => o1 j (by omega)
    · rw [I5, if_neg (by omega), i4 832 (by omega), v3.I, I2, if_pos rfl]; decide
    · rw [I5, if_neg b, i4 f a, v3.I, I2, if_neg e]; exact i1 f
  · obtain ⟨q1, q2, q3, q4⟩ := S1.2.2 828 (by decide)
    have put : ∀ v : Int32, ((vR c k → v = nI (nn c k)) ∧ (¬ vR c k → v = -1)) → wj_Mod_anew_31 Z post K vm (nI k) v (nI k) (gR h1 828 vm) h1 := by
      intro v ov
      rw [q1]
      refine ⟨R 828, rfl, q3, by rw [q4]; exact pk_in k _ z rfl (rN_lt _), ?_⟩
      intro h2 e2
      rw [jr_cl (by omega)] at e2
      obtain ⟨S2, s2, I2, c2, a2⟩ := S1.wA (by decide) e2
      rintro y rfl
      refine hK _ ⟨k + 1, h2, by omega, by rw [nI_1], S2, D1.frame (fun g _ _ => I2 g) fun g h1 h2 hk => ?_, fun f => by rw [I2]; exact i1 f, by rw [(c2 827 (by omega) (by decide)).A]; exact a1, fun j hj => ?_, sm_tr s1 s2⟩ ?_
      · have := c2 g (by omega) hk
        exact ⟨this.A, this.L⟩
      · rw [a2]
        by_cases x : j = k
        · rw [if_pos x, x]; exact ov
        · rw [if_neg x]; exact o1 j (by omega)
      · dsimp only
        rw [nI_1, jr_cl (by omega), jr_cl (by omega)]; omega
    rw [i1]
    rcases O with ⟨o3, o4⟩ | ⟨o3, o4⟩
    · exact ⟨fun _ => put (-1) ⟨fun v => absurd v (o4 k), fun _ => rfl⟩, fun w => absurd o3 w⟩
    · refine ⟨fun w => absurd w o3, fun _ => ⟨S1.1, S1.rd 827 1 k rfl (by decide) z ?_⟩⟩
      rw [jr_cl (by omega), a1]
      exact put _ (o4 k z)
end RAN
