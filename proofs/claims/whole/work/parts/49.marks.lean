def IC (A : Nat → Nat → Nat) (h : HS) (N : Nat) (ch : Nat → Prop) : Prop := ∀ n, n < N → (¬ gA h (A 15 5) n = 0 ↔ ch n)
section MRK
variable {Z : Nat → Nat} {vx : Nat} {A : Nat → Nat → Nat} {B : Nat → Nat × Nat} {h : HS} {d c : DS} {U : Nat → Nat → Prop} {lt : Nat → Nat}
/-- isChanged alone is written -/
theorem TS_s5 {h' : HS} (T : TS vx A B h) {i : Nat} {v : Int32} (e : h' = sA h (A 15 5) i v) : TS vx A B h' ∧ sm (fun a => a ≠ A 15 5) h h' := by
  rw [e]; exact ⟨T.sA, fun a ha => ce_sA ha⟩
theorem NT.s5 {h' : HS} (N : NT d A h 960) (T : TS vx A B h) (s : sm (fun a => a ≠ A 15 5) h h') : NT d A h' 960 := by
  obtain ⟨le, nt, sz, V, ⟨d1, d2, d3, d4, d5⟩, w⟩ := N
  refine ⟨le, nt, sz, V, ⟨?_, ?_, ?_, ?_, ?_⟩, w⟩
  · rw [(s _ (T.ne (by omega) (by omega) (by omega))).A]; exact d1
  · rw [(s _ (T.ne (by omega) (by omega) (by omega))).A]; exact d2
  · rw [(s _ (T.ne (by omega) (by omega) (by omega))).A]; exact d3
  · rw [(s _ (T.ne (by omega) (by omega) (by omega))).I]; exact d4
  · rw [(s _ (T.ne (by omega) (by omega) (by omega))).I]; exact d5
theorem LB.s5 {h' : HS} (L : LB c A h) (T : TS vx A B h) (s : sm (fun a => a ≠ A 15 5) h h') : LB c A h' := by
  have e := (s _ (T.ne (i := 2) (j := 5) (by omega) (by omega) (by omega))).A
  unfold LB
  rw [e]; exact L
/-- marked, as far as i -/
def mkp (c d : DS) (i n : Nat) : Prop := ∃ j, vR d j ∧ ck d j < i ∧ ¬ (vR c j ∧ lst c j = lst d j) ∧ (nn d j = n ∨ (vR c j ∧ nn d (lst c j) = n))
theorem mkp_n {i : Nat} (h : ∀ j, vR d j → ck d j = i → vR c j ∧ lst c j = lst d j) (n : Nat) : mkp c d (i + 1) n ↔ mkp c d i n := by
  constructor
  · rintro ⟨j, h1, h2, h3, h4⟩
    refine ⟨j, h1, Nat.lt_of_le_of_ne (by omega) fun z => h3 (h j h1 z), h3, h4⟩
  · rintro ⟨j, h1, h2, h3, h4⟩
    exact ⟨j, h1, by omega, h3, h4⟩
theorem mkp_s (hd : WF d) {k : Nat} (hk : vR d k) (h3 : ¬ (vR c k ∧ lst c k = lst d k)) (n : Nat) : mkp c d (ck d k + 1) n ↔ (mkp c d (ck d k) n ∨ nn d k = n ∨ (vR c k ∧ nn d (lst c k) = n)) := by
  constructor
  · rintro ⟨j, h1, h2, h3, h4⟩
    by_cases z : ck d j = ck d k
    · obtain rfl := ck_inj hd h1 hk z
      exact Or.inr h4
    · exact Or.inl ⟨j, h1, by omega, h3, h4⟩
  · rintro (⟨j, h1, h2, h3, h4⟩ | w)
    · exact ⟨j, h1, by omega, h3, h4⟩
    · exact ⟨k, hk, by omega, h3, w⟩
theorem sp_markChanges {post : HS → Prop} (hc : WF c) (hd : WF d) (g : grows c d) (T : TS vx A B h) (N : NT d A h 960) (L : LB c A h) (kk : ∀ h', TS vx A B h' → NT d A h' 960 → IC A h' (cnt d) (Chg c d) → sm (fun a => a ≠ A 15 5) h h' → post h') : wp_Tab_markChanges Z post h (A 15 0) := by
  obtain ⟨le, nt, sz, V, -, hV, -, -, -⟩ := id N
  obtain ⟨le0, nt0, sz0, V0, D0, w01, w02, w03, w04⟩ := id N
  have keep : ∀ h', sm (fun a => a ≠ A 15 5) h h' → TD A h' le0 nt0 sz0 (nI (cn (fst d) 960)) (nI V0) := by
    intro h' s
    obtain ⟨d1, d2, d3, d4, d5⟩ := D0
    refine ⟨?_, ?_, ?_, ?_, ?_⟩
    · rw [(s _ (T.ne (by omega) (by omega) (by omega))).A]; exact d1
    · rw [(s _ (T.ne (by omega) (by omega) (by omega))).A]; exact d2
    · rw [(s _ (T.ne (by omega) (by omega) (by omega))).A]; exact d3
    · rw [(s _ (T.ne (by omega) (by omega) (by omega))).I]; exact d4
    · rw [(s _ (T.ne (by omega) (by omega) (by omega))).I]; exact d5
  clear hV
  have cV : cnt d ≤ V0 := by
    by_cases z : cnt d = 0
    · omega
    · obtain ⟨k, k1, k2, k3⟩ := cn_ex (P := fst d) (N := 960) (k := cnt d - 1) (by show cnt d - 1 < cnt d; omega)
      have := nn_ck hd k k2.1
      have := (w02 k k1 k2.1).2.2
      omega
  -- the second loop
  have second : ∀ h1, TS vx A B h1 → sm (fun a => a ≠ A 15 5) h h1 → (∀ n, n < V0 → gA h1 (A 15 5) n = 0) → lp (wb_Tab_markChanges_25 Z post (A 15 0)) ((0 : Int32), h1) := by
    intro h1 T1 s1 z1
    refine lp_inv (fun q => ∃ i, q.1 = nI i ∧ i ≤ V0 ∧ TS vx A B q.2 ∧ sm (fun a => a ≠ A 15 5) h q.2 ∧ ∀ n, n < V0 → (¬ gA q.2 (A 15 5) n = 0 ↔ mkp c d i n)) (fun q => V0 - q.1.toNatClampNeg) ?_ _ ⟨0, rfl, by omega, T1, s1, fun n hn => ⟨fun w => absurd (z1 n hn) w, fun ⟨j, _, w, _⟩ => absurd w (Nat.not_lt_zero _)⟩⟩
    rintro ⟨x1, h2⟩ K ⟨i, e1, hi, T2, s2, M2⟩ hK
    dsimp only at e1 T2 s2 M2
    subst e1
    have next : ∀ h3, TS vx A B h3 → sm (fun a => a ≠ A 15 5) h h3 → (∀ n, n < V0 → (¬ gA h3 (A 15 5) n = 0 ↔ mkp c d (i + 1) n)) → i < V0 → wj_Tab_markChanges_79 Z post K (A 15 0) (nI i) h3 := by
      intro h3 T3 s3 M3 hi
      rintro y rfl
      refine hK _ ⟨i + 1, nI_1 i, by omega, T3, s3, M3⟩ ?_
      dsimp only
      rw [nI_1, jr_cl (by omega), jr_cl (by omega)]; omega
    obtain ⟨d1, d2, d3, d4, d5⟩ := keep h2 s2
    obtain ⟨⟨t1, t2, t3⟩, t4, ⟨p1, p2, p3⟩, ⟨q1, q2, q3⟩, ⟨r1, r2, r3⟩, ⟨u1, u2, u3⟩, ⟨v1, v2, v3⟩⟩ := id T2
    have L2 := L.s5 T s2
    unfold wb_Tab_markChanges_25
    dsimp only
    refine ⟨t4, ?_⟩
    rw [d5]
    refine pk_le V0 i (fun z => kk h2 T2 (N.s5 T s2) (fun n hn => ?_) s2) (fun z => ⟨t4, A 15 2, q1, q2, by rw [q3]; exact pk_in i _ (by omega), ?_⟩)
    · rw [M2 n (by omega), ← mkd_iff hd g hn]
      constructor
      · rintro ⟨j, h1, h2, h3, h4⟩; exact ⟨j, h1, h3, h4⟩
      · rintro ⟨j, h1, h3, h4⟩
        have := (w02 j (vR_lt hd h1) h1).2.2
        exact ⟨j, h1, by omega, h3, h4⟩
    rintro y rfl
    refine ⟨t4, A 15 1, p1, p2, by rw [p3]; exact pk_in i _ (by omega), ?_⟩
    rw [jr_cl (by omega), d1]
    by_cases ex : ∃ k, vR d k ∧ ck d k = i
    · obtain ⟨k, hk, rfl⟩ := ex
      obtain ⟨a1, a2, a3⟩ := w02 k (vR_lt hd hk) hk
      obtain ⟨l1, -, -, -⟩ := lst_spec hk
      have b1 := (ck_lt hd l1).1
      have b2 := nn_lt hd hk
      rw [a1]
      -- the one before
      have bef : (vR c k ∧ gA h2 (A 15 2) (ck d k) = nI (ck d (lst c k))) ∨ (¬ vR c k ∧ gA h2 (A 15 2) (ck d k) = -1) := by
        by_cases z : vR c k
        · left
          refine ⟨z, ?_⟩
          have := L2.1 k z
          rw [(g k z).2, (g _ (lst_spec z).1).2] at this
          exact this
        · right
          refine ⟨z, L2.2 _ (ck_lt hd hk).1 fun j hj e => z ?_⟩
          rw [(g j hj).2] at e
          rw [ck_inj hd hk (g j hj).1 e]; exact hj
      refine ⟨fun e => next h2 T2 s2 (fun n hn => ?_) z, fun e => ?_⟩
      · rw [M2 n hn]
        refine (mkp_n (fun j hj ej => ?_) n).symm
        obtain rfl := ck_inj hd hj hk ej
        rcases bef with ⟨b, eb⟩ | ⟨b, eb⟩
        · refine ⟨b, ?_⟩
          have l2 := (g _ (lst_spec b).1).1
          have b3 := (ck_lt hd l2).1
          rw [eb, nI_eq (by omega) (by omega)] at e
          exact (ck_inj hd l1 l2 e).symm
        · rw [eb] at e
          exact absurd e (nI_m1 (by omega))
      · have h3 : ¬ (vR c k ∧ lst c k = lst d k) := by
          rintro ⟨b, eb⟩
          rcases bef with ⟨-, e2⟩ | ⟨b2, -⟩
          · exact e (by rw [e2, eb])
          · exact b2 b
        refine ⟨t4, t4, A 15 3, r1, r2, by rw [r3]; exact pk_in (ck d k) _ (by omega), A 15 5, v1, v2, ?_⟩
        rw [d2, a2, jr_cl (by omega)]
        refine ⟨by rw [v3]; exact pk_in (nn d k) _ (by omega), Or.inr rfl, ?_⟩
        intro h4 e4
        obtain ⟨T4, s4⟩ := TS_s5 T2 e4
        have M4 : ∀ n, n < V0 → (¬ gA h4 (A 15 5) n = 0 ↔ (mkp c d (ck d k) n ∨ nn d k = n)) := by
          intro n hn
          rw [e4, gA_sA]
          by_cases w : n = nn d k
          · rw [if_pos ⟨rfl, w⟩]; exact ⟨fun _ => Or.inr w.symm, fun _ => by decide⟩
          · rw [if_neg (fun y => w y.2), M2 n hn]
            exact ⟨Or.inl, fun y => y.elim id (fun x => absurd x.symm w)⟩
        clear e4
        obtain ⟨f1, f2, f3, f4, f5⟩ := keep h4 (sm_tr s2 s4)
        rcases bef with ⟨b, eb⟩ | ⟨b, eb⟩
        · have l2 := (g _ (lst_spec b).1).1
          have b3 := (ck_lt hd l2).1
          have b4 := nn_lt hd l2
          rw [eb]
          refine ⟨fun y => absurd y (nI_m1 (by omega)), fun _ => ⟨T4.2.1, T4.2.1, A 15 3, T4.2.2.2.2.1.1, T4.2.2.2.2.1.2.1, by rw [T4.2.2.2.2.1.2.2]; exact pk_in (ck d (lst c k)) _ b3, A 15 5, T4.2.2.2.2.2.2.1, T4.2.2.2.2.2.2.2.1, ?_⟩⟩
          rw [jr_cl (by omega), f2, (w02 _ (vR_lt hd l2) l2).2.1, jr_cl (by omega)]
          refine ⟨by rw [T4.2.2.2.2.2.2.2.2]; exact pk_in (nn d (lst c k)) _ (by omega), Or.inr rfl, ?_⟩
          intro h5 e5
          obtain ⟨T5, s5⟩ := TS_s5 T4 e5
          refine next h5 T5 (sm_tr s2 (sm_tr s4 s5)) (fun n hn => ?_) z
          rw [mkp_s hd hk h3, e5, gA_sA]
          by_cases w : n = nn d (lst c k)
          · rw [if_pos ⟨rfl, w⟩]; exact ⟨fun _ => Or.inr (Or.inr ⟨b, w.symm⟩), fun _ => by decide⟩
          · rw [if_neg (fun y => w y.2), M4 n hn]
            exact ⟨fun y => y.elim Or.inl (fun x => Or.inr (Or.inl x)), fun y => y.elim Or.inl (fun x => x.elim Or.inr (fun u => absurd u.2.symm w))⟩
        · rw [eb]
          refine ⟨fun _ => next h4 T4 (sm_tr s2 s4) (fun n hn => ?_) z, fun y => absurd rfl y⟩
          rw [mkp_s hd hk h3, M4 n hn]
          exact ⟨fun y => y.elim Or.inl (fun x => Or.inr (Or.inl x)), fun y => y.elim Or.inl (fun x => x.elim Or.inr (fun u => absurd u.1 b))⟩
    · have e1 : le0 i = -1 := w04 i (by omega) fun k hk e => ex ⟨k, hk, e.symm⟩
      have e2 : gA h2 (A 15 2) i = -1 := L2.2 i (by omega) fun k hk e => ex ⟨k, (g k hk).1, by rw [e]; exact (g k hk).2.symm⟩
      rw [e1, e2]
      refine ⟨fun _ => next h2 T2 s2 (fun n hn => ?_) z, fun y => absurd rfl y⟩
      rw [M2 n hn]
      exact (mkp_n (fun j hj ej => absurd ⟨j, hj, ej⟩ ex) n).symm
  refine lp_inv (fun q => ∃ i, q.1 = nI i ∧ i ≤ V0 ∧ TS vx A B q.2 ∧ sm (fun a => a ≠ A 15 5) h q.2 ∧ ∀ n, n < i → gA q.2 (A 15 5) n = 0) (fun q => V0 - q.1.toNatClampNeg) ?_ _ ⟨0, rfl, by omega, T, sm_rf, fun n hn => absurd hn (Nat.not_lt_zero _)⟩
  rintro ⟨x1, h2⟩ K ⟨i, e1, hi, T2, s2, M2⟩ hK
  dsimp only at e1 T2 s2 M2
  subst e1
  obtain ⟨d1, d2, d3, d4, d5⟩ := keep h2 s2
  unfold wb_Tab_markChanges_2
  dsimp only
  refine ⟨T2.2.1, ?_⟩
  rw [d5]
  refine pk_le V0 i (fun z => second h2 T2 s2 fun n hn => M2 n (by omega)) (fun z => ⟨T2.2.1, A 15 5, T2.2.2.2.2.2.2.1, T2.2.2.2.2.2.2.2.1, by rw [T2.2.2.2.2.2.2.2.2]; exact pk_in i _ (by omega), Or.inl rfl, ?_⟩)
  intro h3 e3
  obtain ⟨T3, s3⟩ := TS_s5 T2 e3
  rintro y rfl
  refine hK _ ⟨i + 1, nI_1 i, by omega, T3, sm_tr s2 s3, fun n hn => ?_⟩ ?_
  · rw [e3, gA_sA, jr_cl (by omega)]
    by_cases w : n = i
    · rw [if_pos ⟨rfl, w⟩]
    · rw [if_neg (fun y => w y.2)]; exact M2 n (by omega)
  · dsimp only
    rw [nI_1, jr_cl (by omega), jr_cl (by omega)]; omega
/-- nothing has changed: the same document -/
theorem sp_isAsRemembered {post : Int32 → HS → Prop} (hd : WF d) (T : TS vx A B h) (N : NT d A h 960) (L : LB d A h) (kk : post 1 h) : wp_Tab_isAsRemembered Z post h (A 15 0) := by
  obtain ⟨le, nt, sz, V, ⟨d1, d2, d3, d4, d5⟩, w1, w2, w3, w4⟩ := N
  obtain ⟨⟨t1, t2, t3⟩, t4, ⟨p1, p2, p3⟩, ⟨q1, q2, q3⟩, ⟨r1, r2, r3⟩, ⟨u1, u2, u3⟩, ⟨v1, v2, v3⟩⟩ := T
  refine lp_inv (fun q => ∃ i, q.1 = nI i ∧ i ≤ V ∧ q.2 = h) (fun q => V - q.1.toNatClampNeg) ?_ _ ⟨0, rfl, by omega, rfl⟩
  rintro ⟨x1, h2⟩ K ⟨i, e1, hi, e2⟩ hK
  dsimp only at e1 e2
  subst e1 e2
  unfold wb_Tab_isAsRemembered_2
  dsimp only
  refine ⟨t4, ?_⟩
  rw [d5]
  refine pk_le V i (fun z => kk) (fun z => ⟨t4, A 15 1, p1, p2, by rw [p3]; exact pk_in i _ (by omega), t4, A 15 2, q1, q2, by rw [q3]; exact pk_in i _ (by omega), ?_⟩)
  have e : gA h2 (A 15 1) (nI i).toNatClampNeg = gA h2 (A 15 2) (nI i).toNatClampNeg := by
    rw [jr_cl (by omega), d1]
    by_cases ex : ∃ k, vR d k ∧ ck d k = i
    · obtain ⟨k, hk, rfl⟩ := ex
      rw [L.1 k hk, (w2 k (vR_lt hd hk) hk).1]
    · rw [w4 i (by omega) fun k hk e => ex ⟨k, hk, e.symm⟩, L.2 i (by omega) fun k hk e => ex ⟨k, hk, e.symm⟩]
  refine ⟨fun _ => ?_, fun y => absurd e y⟩
  rintro y rfl
  refine hK _ ⟨i + 1, nI_1 i, by omega, rfl⟩ ?_
  dsimp only
  rw [nI_1, jr_cl (by omega), jr_cl (by omega)]; omega
theorem sp_changedCount {post : Int32 → HS → Prop} {ch : Nat → Prop} (hd : WF d) (T : TS vx A B h) (N : NT d A h 960) (I : IC A h (cnt d) ch) (kk : post (nI (cn ch (cnt d))) h) : wp_Tab_changedCount Z post h (A 15 0) := by
  obtain ⟨le, nt, sz, V, ⟨d1, d2, d3, d4, d5⟩, w1, w2, w3, w4⟩ := N
  obtain ⟨⟨t1, t2, t3⟩, t4, ⟨p1, p2, p3⟩, ⟨q1, q2, q3⟩, ⟨r1, r2, r3⟩, ⟨u1, u2, u3⟩, ⟨v1, v2, v3⟩⟩ := T
  have c9 : cnt d ≤ 960 := cn_up _ _
  refine lp_inv (fun q => ∃ i, q.1 = nI (cn ch i) ∧ q.2.1 = nI i ∧ i ≤ cnt d ∧ q.2.2 = h) (fun q => cnt d - q.2.1.toNatClampNeg) ?_ _ ⟨0, rfl, rfl, by omega, rfl⟩
  rintro ⟨x1, x2, h2⟩ K ⟨i, e1, e2, hi, e3⟩ hK
  dsimp only at e1 e2 e3
  subst e1 e2 e3
  unfold wb_Tab_changedCount_4
  dsimp only
  refine ⟨t4, ?_⟩
  rw [d4]
  refine pk_le (cnt d) i (fun z => by rw [show i = cnt d from by omega]; exact kk) (fun z => ⟨t4, A 15 5, v1, v2, by rw [v3]; exact pk_in i _ (by omega), ?_⟩)
  rw [jr_cl (by omega)]
  refine ⟨fun e => ?_, fun e => ?_⟩
  · rintro y rfl
    refine hK _ ⟨i + 1, by rw [cn_n (fun y => (I i z).mpr y e)], nI_1 i, by omega, rfl⟩ ?_
    dsimp only
    rw [nI_1, jr_cl (by omega), jr_cl (by omega)]; omega
  · rintro y rfl y rfl
    refine hK _ ⟨i + 1, by rw [cn_s ((I i z).mp e), nI_1], nI_1 i, by omega, rfl⟩ ?_
    dsimp only
    rw [nI_1, jr_cl (by omega), jr_cl (by omega)]; omega
theorem sp_changedNet {post : Int32 → HS → Prop} {ch : Nat → Prop} {k : Int32} (hd : WF d) (T : TS vx A B h) (N : NT d A h 960) (I : IC A h (cnt d) ch) (kk : ∀ r, Kth ch nI (cnt d) k r → post r h) : wp_Tab_changedNet Z post h (A 15 0) k := by
  obtain ⟨le, nt, sz, V, ⟨d1, d2, d3, d4, d5⟩, w1, w2, w3, w4⟩ := N
  obtain ⟨⟨t1, t2, t3⟩, t4, ⟨p1, p2, p3⟩, ⟨q1, q2, q3⟩, ⟨r1, r2, r3⟩, ⟨u1, u2, u3⟩, ⟨v1, v2, v3⟩⟩ := T
  have c9 : cnt d ≤ 960 := cn_up _ _
  refine lp_inv (fun q => ∃ i, q.1 = k ∧ q.2.1 = nI (cn ch i) ∧ q.2.2.1 = nI i ∧ i ≤ cnt d ∧ q.2.2.2 = h ∧ (k < 0 ∨ nI (cn ch i) ≤ k)) (fun q => cnt d - q.2.2.1.toNatClampNeg) ?_ _ ⟨0, rfl, rfl, rfl, by omega, rfl, ?_⟩
  rotate_left
  · by_cases z : k < 0
    · exact Or.inl z
    · exact Or.inr (by rw [cn_0]; obtain ⟨j, j1, rfl⟩ := nI_of z; exact nI_pos' j1)
  rintro ⟨x1, x2, x3, h2⟩ K ⟨i, e0, e1, e2, hi, e3, kl⟩ hK
  dsimp only at e0 e1 e2 e3
  subst e0 e1 e2 e3
  unfold wb_Tab_changedNet_4
  dsimp only
  refine ⟨t4, ?_⟩
  rw [d4]
  refine pk_le (cnt d) i (fun z => kk _ (Or.inr ⟨by rw [show cnt d = i from by omega]; exact kl, rfl⟩)) (fun z => ⟨t4, A 15 5, v1, v2, by rw [v3]; exact pk_in i _ (by omega), ?_⟩)
  rw [jr_cl (by omega)]
  have ci := cn_up ch i
  refine ⟨fun e => ?_, fun e => ⟨fun f => ?_, fun f => kk _ (Or.inl ⟨i, z, (I i z).mp e, f.symm, rfl⟩)⟩⟩
  · rintro y rfl
    refine hK _ ⟨i + 1, rfl, by rw [cn_n (fun y => (I i z).mpr y e)], nI_1 i, by omega, rfl, by rw [cn_n (fun y => (I i z).mpr y e)]; exact kl⟩ ?_
    dsimp only
    rw [nI_1, jr_cl (by omega), jr_cl (by omega)]; omega
  · rintro y rfl y rfl
    refine hK _ ⟨i + 1, rfl, by rw [cn_s ((I i z).mp e), nI_1], nI_1 i, by omega, rfl, ?_⟩ ?_
    · rw [cn_s ((I i z).mp e)]
      rcases kl with kl | kl
      · exact Or.inl kl
      · by_cases y : x1 < 0
        · exact Or.inl y
        · obtain ⟨j, j1, rfl⟩ := nI_of y
          rw [nI_leI (by omega) j1] at kl
          right
          rw [nI_leI (by omega) j1]
          have : cn ch i ≠ j := fun w => f (by rw [w])
          omega
    · dsimp only
      rw [nI_1, jr_cl (by omega), jr_cl (by omega)]; omega
theorem sp_leastPin {post : Int32 → HS → Prop} {k : Nat} (hd : WF d) (T : TS vx A B h) (N : NT d A h 960) (hk : fst d k) (kk : post (nI (k / 16)) h) : wp_Tab_leastPin Z post h (A 15 0) (nI (nn d k)) := by
  obtain ⟨le, nt, sz, V, ⟨d1, d2, d3, d4, d5⟩, w1, w2, w3, w4⟩ := N
  obtain ⟨⟨t1, t2, t3⟩, t4, ⟨p1, p2, p3⟩, ⟨q1, q2, q3⟩, ⟨r1, r2, r3⟩, ⟨u1, u2, u3⟩, ⟨v1, v2, v3⟩⟩ := T
  have b0 := nn_lt hd hk.1
  obtain ⟨a1, a2, a3⟩ := w2 k (vR_lt hd hk.1) hk.1
  rw [lst_fst hk] at a1
  have b1 := ck_lt hd hk.1
  refine lp_inv (fun q => ∃ i, q.1 = nI (nn d k) ∧ q.2.1 = nI i ∧ i ≤ ck d k ∧ q.2.2 = h) (fun q => ck d k - q.2.1.toNatClampNeg) ?_ _ ⟨0, rfl, rfl, by omega, rfl⟩
  rintro ⟨x1, x2, h2⟩ K ⟨i, e1, e2, hi, e3⟩ hK
  dsimp only at e1 e2 e3
  subst e1 e2 e3
  have next : i ≠ ck d k → wj_Tab_leastPin_35 Z post K (A 15 0) (nI (nn d k)) (nI i) h2 := by
    intro ne
    rintro y rfl
    refine hK _ ⟨i + 1, rfl, nI_1 i, by omega, rfl⟩ ?_
    dsimp only
    rw [nI_1, jr_cl (by omega), jr_cl (by omega)]; omega
  unfold wb_Tab_leastPin_2
  dsimp only
  refine ⟨t4, ?_⟩
  rw [d5]
  refine pk_le V i (fun z => by omega) (fun z => ⟨t4, A 15 1, p1, p2, by rw [p3]; exact pk_in i _ (by omega), ?_⟩)
  rw [jr_cl (by omega), d1]
  by_cases y : i = ck d k
  · subst y
    refine ⟨fun ne => absurd a1 ne, fun _ => ⟨t4, A 15 3, r1, r2, by rw [r3]; exact pk_in (ck d k) _ b1.1, ?_⟩⟩
    rw [d2, a2]
    refine ⟨fun ne => absurd rfl ne, fun _ => ⟨by decide, ?_⟩⟩
    rw [show (16 : Int32) = nI 16 from rfl, pk_div (by omega) (by omega) (by omega), b1.2.1]
    exact kk
  · refine ⟨fun _ => next y, fun e => ⟨t4, A 15 3, r1, r2, by rw [r3]; exact pk_in i _ (by omega), fun _ => next y, fun f => absurd ?_ y⟩⟩
    by_cases ex : ∃ j, vR d j ∧ ck d j = i
    · obtain ⟨j, hj, rfl⟩ := ex
      obtain ⟨f1, f2, f3⟩ := w2 j (vR_lt hd hj) hj
      obtain ⟨l1, l2, -, -⟩ := lst_spec hj
      have b5 := (ck_lt hd l1).1
      rw [f1, nI_eq (by omega) (by omega)] at e
      have l := ck_inj hd l1 hj e
      rw [d2, f2, nI_eq (by have := nn_lt hd hj; omega) (by omega)] at f
      have := (lst_eq hj hk.1).mpr ((nn_eq hj hk.1).mp f)
      rw [l, lst_fst hk] at this
      rw [this]
    · rw [w4 i (by omega) fun k hk e => ex ⟨k, hk, e.symm⟩] at e
      exact absurd e.symm (nI_m1 (by omega))
end MRK
