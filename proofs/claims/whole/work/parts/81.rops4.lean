section ROS
variable {Z : Nat → Nat} {vm : Nat} {R : Nat → Nat} {B : Nat → Nat × Nat} {h h' : HS} {d : DS} {ch : Nat → Prop}
theorem r_drop {post : Int32 → HS → Prop} {x1 : Int32} (hd : WF d) (K : KR vm R B h d ch) (kk : ∀ n r s h', o_drop (d, ch) x1 = (n, r, s) → KR vm R B h' s.1 s.2 → gI h' 800 vm = nI n → sm20 B h h' → post r h') : wp_Mod_drop Z post h vm x1 := by
  have hW := hd.1.2.1
  obtain ⟨S, D, -⟩ := id K
  have bad : (¬ ∃ k, k < nW d ∧ x1 = nI k ∧ wDr d k = 0) → wj_Mod_drop_26 Z post vm x1 (some vm) h := by
    intro n
    refine ⟨vm, rfl, S.1, ?_⟩
    intro h7 e7
    obtain ⟨K7, t7, s7⟩ := K.thr e7
    refine ⟨K7.1.1, fun w => absurd w (by rw [t7]; decide), fun _ => kk 1 0 _ h7 (by unfold o_drop; rw [cif_f n]) K7 t7 s7⟩
  refine ⟨fun w => bad fun ⟨k, k1, k2, _⟩ => nI_pos (n := k) (by omega) (by rw [← k2]; exact w), fun w => ⟨S.1, ?_⟩⟩
  obtain ⟨v, v1, rfl⟩ := nI_of w
  rw [D.1.2.1]
  refine pk_le (nW d) v (fun y => bad fun ⟨k, k1, k2, _⟩ => ?_) (fun y => ⟨S.1, S.rd 807 2 v rfl (by decide) (by show v < 100; omega) ?_⟩)
  · rw [nI_eq (by omega) (by omega)] at k2; omega
  have wd := (hd.2.2.1 v y).2.2
  rw [jr_cl (by omega), D.2.2.1.2 v (by omega), nI_z (by omega)]
  refine ⟨fun e => bad fun ⟨k, k1, k2, k3⟩ => ?_, fun e => ?_⟩
  · rw [nI_eq (by omega) (by omega)] at k2
    subst k2; exact e k3
  have eo : o_drop (d, ch) (nI v) = (0, nI (cn (Chg d (dDr d v)) (cnt (dDr d v))), nx (d, ch) (dDr d v)) := by
    unfold o_drop
    rw [cif_t ⟨v, y, rfl, e⟩, tn_nI (by omega)]
  refine ⟨vm, rfl, S.1, ?_⟩
  intro h7 e7
  obtain ⟨K7, t7, s7⟩ := K.thr e7
  clear e7
  obtain ⟨S7, D7, -⟩ := id K7
  refine ⟨S7.1, fun _ => ⟨S7.1, S7.rd 807 2 v rfl (by decide) (by show v < 100; omega) ⟨Or.inr rfl, ?_⟩⟩, fun w => absurd t7 w⟩
  intro g1 e1
  rw [jr_cl (by omega)] at e1
  obtain ⟨S1, s1, I1, c1, a1⟩ := S7.wA (by decide) e1
  clear e1
  have D6 : RD vm R g1 (dDr d v) := rd_dr v D7 (fun g _ _ => I1 g) (fun g h1 h2 h3 h4 => ⟨(c1 g h4 h3).A, (c1 g h4 h3).L⟩) a1
  have O6 : OLD vm R g1 d := K7.old (I1 832) (by rw [(c1 827 (by omega) (by decide)).A])
  refine ⟨S1.1, r_anew hd (WF_dr hd) S1 D6 O6 fun h9 K9 e9 i9 s9 => ⟨K9.1.1, ?_⟩⟩
  rw [e9]
  exact kk 0 _ _ h9 eo K9 (by rw [i9 800 (by omega) (by omega) (by omega), I1]; exact t7) (sm_tr s7 (sm_tr s1 s9))
theorem KR_eq {e : DS} {g : HS} {f : Nat} (K : KR vm R B h d ch) (q : eqd d e) (e1 : nS e = nS d ∧ nP e = nP d) (S' : RS vm R B g) (D' : RD vm R g e) (I : ∀ x, gI g x vm = gI h x vm) (hf : f ≤ 824) (c : ∀ x, x ≠ f → rK x ≠ 0 → ce h g (R x)) : KR vm R B g e ch := by
  obtain ⟨S, D, n, Ic, O⟩ := K
  obtain ⟨n1, n2, n3, n4⟩ := eqd_n q
  obtain ⟨q1, q2, q3, q4, q5, q6, q7, q8⟩ := q
  refine ⟨S', D', by rw [I, n4]; exact n, fun m hm => by rw [(c 830 (by omega) (by decide)).A]; exact Ic m (by rw [← n4]; exact hm), ?_⟩
  rw [I, e1.1, e1.2, q6, q3]
  rcases O with o | ⟨o1, ld, ⟨up, U, F⟩, o3, o4⟩
  · exact Or.inl o
  · refine Or.inr ⟨o1, ld, ⟨up, fun n hn => by rw [(c 825 (by omega) (by decide)).A]; exact U n hn, F⟩, o3, ?_⟩
    unfold NE at o4 ⊢
    rw [I, n1, n3, q4, (c 827 (by omega) (by decide)).A, (c 826 (by omega) (by decide)).A]; exact o4
theorem r_open {post : Int32 → HS → Prop} {x1 : Int32} (hd : WF d) (K : KR vm R B h d ch) (kk : ∀ n r s h', o_open (d, ch) x1 = (n, r, s) → KR vm R B h' s.1 s.2 → gI h' 800 vm = nI n → sm20 B h h' → post r h') : wp_Mod_open Z post h vm x1 := by
  have hP := hd.1.2.2.2.2.1
  obtain ⟨S, D, -⟩ := id K
  have bad : (¬ ∃ k, k < nP d ∧ x1 = nI k) → wj_Mod_open_17 Z post vm x1 (some vm) h := by
    intro n
    refine ⟨vm, rfl, S.1, ?_⟩
    intro h7 e7
    obtain ⟨K7, t7, s7⟩ := K.thr e7
    refine ⟨K7.1.1, fun w => absurd w (by rw [t7]; decide), fun _ => kk 1 0 _ h7 (by unfold o_open; rw [cif_f n]) K7 t7 s7⟩
  refine ⟨fun w => bad fun ⟨k, k1, k2⟩ => nI_pos (n := k) (by omega) (by rw [← k2]; exact w), fun w => ⟨S.1, ?_⟩⟩
  obtain ⟨p, p1, rfl⟩ := nI_of w
  rw [D.1.2.2.2.2.1]
  refine pk_le (nP d) p (fun y => bad fun ⟨k, k1, k2⟩ => ?_) (fun y => ⟨vm, rfl, S.1, ?_⟩)
  · rw [nI_eq (by omega) (by omega)] at k2; omega
  have po := (hd.2.2.2.2.2.1 p y).2.2
  have eo : o_open (d, ch) (nI p) = (0, nI (1 - pOp d p), (dOp d p (1 - pOp d p), ch)) := by
    unfold o_open; rw [cif_t ⟨p, y, rfl⟩, tn_nI (by omega)]
  intro h7 e7
  obtain ⟨K7, t7, s7⟩ := K.thr e7
  clear e7
  obtain ⟨S7, D7, -⟩ := id K7
  have key : ∀ v, v = 1 - pOp d p → ∀ h1, h1 = sA h7 (R 819) (nI p).toNatClampNeg (nI v) → gT h1 vm = 24 ∧ (∃ a16, (gR h1 819 vm) = some a16 ∧ gT h1 a16 = 2 ∧ vp_in (nI p) (gN h1 a16) ∧ (((gA h1 a16 (nI p).toNatClampNeg) = 0 ∨ (gA h1 a16 (nI p).toNatClampNeg) = 1) ∧ post (gA h1 a16 (nI p).toNatClampNeg) h1)) := by
    intro v ev h1 e1
    rw [jr_cl (by omega)] at e1 ⊢
    obtain ⟨S1, s1, I1, c1, a1⟩ := S7.wA (by decide) e1
    have D1 : RD vm R h1 (dOp d p v) := rd_op p v D7 (fun g _ _ => I1 g) (fun g h1 h2 h3 h4 => ⟨(c1 g h4 h3).A, (c1 g h4 h3).L⟩) a1
    have K1 := KR_eq K7 (eqd_op (p := p) (v := v)) ⟨by simp [dOp, dN_eN, dL_eL, dI_eI, dL_eN, dI_eN, dN_eL, dI_eL, dN_eI, dL_eI, nS, nW, nJ, nL, nP, nO, nU, bas, wSh, wDr, jSh, lSh, lNm, pSh, pOp, oSh, oLb, oNm, uSh, uNm, uFr, uTo, wX, wY, wX2, wY2, jX, jY, lX, lY, pX, pY, par, pPt, rnk], by simp [dOp, dN_eN, dL_eL, dI_eI, dL_eN, dI_eN, dN_eL, dI_eL, dN_eI, dL_eI, nS, nW, nJ, nL, nP, nO, nU, bas, wSh, wDr, jSh, lSh, lNm, pSh, pOp, oSh, oLb, oNm, uSh, uNm, uFr, uTo, wX, wY, wX2, wY2, jX, jY, lX, lY, pX, pY, par, pPt, rnk]⟩ S1 D1 I1 (f := 819) (by omega) c1
    have v01 : nI v = 0 ∨ nI v = 1 := by
      have : v = 0 ∨ v = 1 := by omega
      rcases this with w | w
      · left; rw [w]; rfl
      · right; rw [w]; rfl
    refine ⟨S1.1, S1.rd 819 2 p rfl (by decide) (by show p < 60; omega) ?_⟩
    rw [a1, if_pos rfl]
    exact ⟨v01, kk 0 _ _ h1 (by rw [eo, ← ev]) K1 (by rw [I1]; exact t7) (sm_tr s7 s1)⟩
  refine ⟨S7.1, fun _ => ⟨S7.1, S7.1, S7.rd 819 2 p rfl (by decide) (by show p < 60; omega) ?_⟩, fun w => absurd t7 w⟩
  have cl : (nI p).toNatClampNeg = p := jr_cl (by omega)
  refine ⟨fun e => S7.rd 819 2 p rfl (by decide) (by show p < 60; omega) ⟨Or.inl rfl, key 0 ?_⟩, fun e => S7.rd 819 2 p rfl (by decide) (by show p < 60; omega) ⟨Or.inr rfl, key 1 ?_⟩⟩
  · rw [cl, D7.2.2.2.2.2.1.2 p (by omega), nI_z (by omega)] at e; omega
  · rw [cl, D7.2.2.2.2.2.1.2 p (by omega), nI_z (by omega)] at e; omega
theorem r_rank {post : Int32 → HS → Prop} {x1 x2 : Int32} (hd : WF d) (K : KR vm R B h d ch) (kk : ∀ n r s h', o_rank (d, ch) x1 x2 = (n, r, s) → KR vm R B h' s.1 s.2 → gI h' 800 vm = nI n → sm20 B h h' → post r h') : wp_Mod_rank Z post h vm x1 x2 := by
  obtain ⟨S, D, -⟩ := id K
  have bad : ¬ (isN x1 ∧ (-9 : Int32) ≤ x2 ∧ x2 ≤ (9 : Int32)) → wj_Mod_rank_24 Z post vm x1 x2 (some vm) h := by
    intro n
    refine ⟨vm, rfl, S.1, ?_⟩
    intro h7 e7
    obtain ⟨K7, t7, s7⟩ := K.thr e7
    refine ⟨K7.1.1, fun _ => kk 1 0 _ h7 (by unfold o_rank; rw [cif_f n]) K7 t7 s7, fun w => absurd w (by rw [t7]; decide)⟩
  have lt9 : ¬ x2 < (-9 : Int32) ↔ (-9 : Int32) ≤ x2 := by
    rw [Int32.lt_iff_toInt_lt, Int32.le_iff_toInt_le]; omega
  have gt9 : ¬ (9 : Int32) < x2 ↔ x2 ≤ (9 : Int32) := by
    rw [Int32.lt_iff_toInt_lt, Int32.le_iff_toInt_le]; omega
  refine r_isName (fun ip => ⟨fun q => absurd q (by decide), fun _ => ⟨fun w => bad fun y => lt9.mpr y.2.1 w, fun w => ⟨fun w2 => bad fun y => gt9.mpr y.2.2 w2, fun w2 => ⟨vm, rfl, S.1, ?_⟩⟩⟩⟩) (fun n => ⟨fun _ => bad fun y => n y.1, fun q => absurd rfl q⟩)
  obtain ⟨n, hn, rfl⟩ := id ip
  have eo : o_rank (d, ch) (nI n) x2 = cif (rnk d n = x2) (0, 0, (d, ch)) (0, 1, (dRk d n x2, ch)) := by
    unfold o_rank; rw [cif_t ⟨ip, lt9.mp w, gt9.mp w2⟩, tn_nI (by omega)]
  intro h7 e7
  obtain ⟨K7, t7, s7⟩ := K.thr e7
  clear e7
  obtain ⟨S7, D7, -⟩ := id K7
  refine ⟨S7.1, fun w => absurd t7 w, fun _ => ⟨S7.1, S7.rd 824 1 n rfl (by decide) hn ?_⟩⟩
  rw [jr_cl (by omega), D7.2.2.2.2.2.2.2.2 n hn]
  refine ⟨fun ne => ⟨S7.1, S7.rd 824 1 n rfl (by decide) hn ?_⟩, fun e => kk 0 0 _ h7 (by rw [eo, cif_t e]) K7 t7 s7⟩
  intro h1 e1
  obtain ⟨S1, s1, I1, c1, a1⟩ := S7.wA (by decide) e1
  have D1 : RD vm R h1 (dRk d n x2) := rd_rk n x2 D7 (fun g _ _ => I1 g) (fun g h1 h2 h3 h4 => ⟨(c1 g h4 h3).A, (c1 g h4 h3).L⟩) a1
  have K1 := KR_eq K7 (eqd_rk (n := n) (r := x2)) ⟨by simp [dRk, dN_eN, dL_eL, dI_eI, dL_eN, dI_eN, dN_eL, dI_eL, dN_eI, dL_eI, nS, nW, nJ, nL, nP, nO, nU, bas, wSh, wDr, jSh, lSh, lNm, pSh, pOp, oSh, oLb, oNm, uSh, uNm, uFr, uTo, wX, wY, wX2, wY2, jX, jY, lX, lY, pX, pY, par, pPt, rnk], by simp [dRk, dN_eN, dL_eL, dI_eI, dL_eN, dI_eN, dN_eL, dI_eL, dN_eI, dL_eI, nS, nW, nJ, nL, nP, nO, nU, bas, wSh, wDr, jSh, lSh, lNm, pSh, pOp, oSh, oLb, oNm, uSh, uNm, uFr, uTo, wX, wY, wX2, wY2, jX, jY, lX, lY, pX, pY, par, pPt, rnk]⟩ S1 D1 I1 (f := 824) (by omega) c1
  exact kk 0 1 _ h1 (by rw [eo, cif_f ne]) K1 (by rw [I1]; exact t7) (sm_tr s7 s1)
theorem r_nets {post : Int32 → HS → Prop} (K : KR vm R B h d ch) (kk : ∀ h', KR vm R B h' d ch → sm20 B h h' → post (nI (cnt d)) h') : wp_Mod_nets Z post h vm := by
  refine ⟨K.1.1, ?_⟩
  intro h7 e7
  obtain ⟨K7, t7, s7⟩ := K.thr e7
  refine ⟨K7.1.1, ?_⟩
  rw [K7.2.2.1]
  exact kk h7 K7 s7
theorem r_same {post : Int32 → HS → Prop} (K : KR vm R B h d ch) (kk : ∀ h', KR vm R B h' d ch → sm20 B h h' → post 1 h') : wp_Mod_same Z post h vm := by
  refine ⟨K.1.1, ?_⟩
  intro h7 e7
  obtain ⟨K7, t7, s7⟩ := K.thr e7
  exact kk h7 K7 s7
theorem dec_left {a b : Nat} (h : b < a) : nI (a - b) + (-1) = nI (a - (b + 1)) := by
  rw [show a - b = (a - (b + 1)) + 1 from by omega, pk_m1]
theorem r_changed {post : Int32 → HS → Prop} {k : Int32} (hd : WF d) (K : KR vm R B h d ch) (kk : ∀ r h', Kth ch nI (cnt d) k r → KR vm R B h' d ch → sm20 B h h' → post r h') : wp_Mod_changed Z post h vm k := by
  have c9 : cnt d ≤ 960 := cn_up _ _
  refine ⟨K.1.1, ?_⟩
  intro h7 e7
  obtain ⟨K7, t7, s7⟩ := K.thr e7
  obtain ⟨S7, D7, n7, I7, -⟩ := id K7
  by_cases neg : k < 0
  · refine lp_inv (fun q => q = (k, k, (0 : Int32), h7)) (fun _ => 0) ?_ _ rfl
    rintro q K3 rfl hK
    unfold wb_Mod_changed_9
    dsimp only
    exact ⟨S7.1, fun _ => kk _ h7 (Or.inr ⟨Or.inl neg, rfl⟩) K7 s7, fun _ => ⟨fun _ => kk _ h7 (Or.inr ⟨Or.inl neg, rfl⟩) K7 s7, fun w => absurd neg w⟩⟩
  obtain ⟨m, m1, rfl⟩ := nI_of neg
  refine lp_inv (fun q => ∃ i, i ≤ cnt d ∧ cn ch i ≤ m ∧ q = (nI m, nI (m - cn ch i), nI i, h7)) (fun q => cnt d - q.2.2.1.toNatClampNeg) ?_ _ ⟨0, by omega, by rw [cn_0]; omega, rfl⟩
  rintro q K3 ⟨i, hi, hl, rfl⟩ hK
  have ci := cn_up ch i
  have next : i < cnt d → cn ch (i + 1) ≤ m → wj_Mod_changed_42 Z post K3 vm (nI m) (nI (m - cn ch (i + 1))) (nI i) h7 := by
    intro z w
    rintro y rfl
    refine hK _ ⟨i + 1, by omega, w, by rw [nI_1]⟩ ?_
    dsimp only
    rw [nI_1, jr_cl (by omega), jr_cl (by omega)]; omega
  unfold wb_Mod_changed_9
  dsimp only
  refine ⟨S7.1, ?_⟩
  rw [n7]
  refine pk_le (cnt d) i (fun z => kk _ h7 (Or.inr ⟨Or.inr ?_, rfl⟩) K7 s7) (fun z => ⟨fun w => absurd w neg, fun _ => ⟨S7.1, S7.rd 830 2 i rfl (by decide) (by show i < 960; omega) ?_⟩⟩)
  · rw [nI_leI (by have := cn_up ch (cnt d); omega) m1, show cnt d = i from by omega]; exact hl
  rw [jr_cl (by omega)]
  refine ⟨fun e => ?_, fun e => ?_⟩
  · have p := (I7 i z).mp e
    refine ⟨fun ne => ?_, fun e0 => ?_⟩
    · have : cn ch i < m := by
        have : m - cn ch i ≠ 0 := fun w => ne (by rw [w]; rfl)
        omega
      rintro y rfl
      rw [dec_left this, ← cn_s p]
      exact next z (by rw [cn_s p]; omega)
    · rw [nI_z (by omega)] at e0
      exact kk _ h7 (Or.inl ⟨i, z, p, by rw [show m = cn ch i from by omega], rfl⟩) K7 s7
  · have p : ¬ ch i := fun w => (I7 i z).mpr w e
    rw [← cn_n p]
    exact next z (by rw [cn_n p]; exact hl)
theorem r_netOf {post : Int32 → HS → Prop} {x1 x2 : Int32} (hd : WF d) (K : KR vm R B h d ch) (k0 : (¬ ∃ p t, p < nP d ∧ x1 = nI p ∧ t < nS d ∧ bas d t = pSh d p ∧ x2 = nI (cp d t)) → ∀ h', KR vm R B h' d ch → gI h' 800 vm = 1 → sm20 B h h' → post 0 h') (k1 : ∀ p t, p < nP d → x1 = nI p → t < nS d → bas d t = pSh d p → x2 = nI (cp d t) → ∀ h', KR vm R B h' d ch → gI h' 800 vm = 0 → sm20 B h h' → post (nI (nn d (16 * p + t))) h') : wp_Mod_netOf Z post h vm x1 x2 := by
  have hS := hd.1.1
  have hP := hd.1.2.2.2.2.1
  obtain ⟨S, D, -, -, O⟩ := id K
  have bad : (¬ ∃ p t, p < nP d ∧ x1 = nI p ∧ t < nS d ∧ bas d t = pSh d p ∧ x2 = nI (cp d t)) → wj_Mod_netOf_12 Z post vm x1 h := by
    intro n
    refine ⟨fun e => absurd rfl e, fun _ => ⟨vm, rfl, S.1, ?_⟩⟩
    intro h7 e7
    obtain ⟨K7, t7, s7⟩ := K.thr e7
    exact ⟨K7.1.1, fun _ => k0 n h7 K7 t7 s7, fun w => absurd w (by rw [t7]; decide)⟩
  refine ⟨fun w => bad fun ⟨p, t, a1, a2, _⟩ => nI_pos (n := p) (by omega) (by rw [← a2]; exact w), fun w => ⟨S.1, ?_⟩⟩
  obtain ⟨p, p1, rfl⟩ := nI_of w
  rw [D.1.2.2.2.2.1]
  refine pk_lt p (nP d) (fun y => ⟨S.1, S.rd 816 1 p rfl (by decide) (by show p < 60; omega) ⟨S.1, ?_⟩⟩) (fun y => bad fun ⟨p', t, a1, a2, _⟩ => ?_)
  rotate_left
  · rw [nI_eq (by omega) (by omega)] at a2; omega
  obtain ⟨ps, pb, -⟩ := hd.2.2.2.2.2.1 p y
  rw [jr_cl (by omega), (D.2.2.2.2.2.1.1 p y).1]
  have none : (∀ t, t < nS d → bas d t = pSh d p → x2 ≠ nI (cp d t)) → wj_Mod_netOf_27 Z post vm (nI p) (-1) h := by
    intro n
    refine bad fun ⟨p', t, a1, a2, a3, a4, a5⟩ => ?_
    rw [nI_eq (by omega) (by omega)] at a2
    subst a2; exact n t a3 a4 a5
  have some_ : ∀ t, t < nS d → bas d t = pSh d p → x2 = nI (cp d t) → wj_Mod_netOf_27 Z post vm (nI p) (nI t) h := by
    intro t t1 t2 t3
    refine ⟨fun _ => ⟨vm, rfl, S.1, ?_⟩, fun e => absurd e (nI_m1 (by omega))⟩
    intro h7 e7
    obtain ⟨K7, t7, s7⟩ := K.thr e7
    have v : vR d (16 * p + t) := by
      unfold vR
      rw [show (16 * p + t) / 16 = p from by omega, show (16 * p + t) % 16 = t from by omega]
      exact ⟨y, t1, t2⟩
    have vl := vR_lt hd v
    refine ⟨K7.1.1, fun w => absurd t7 w, fun _ => ⟨K7.1.1, ?_⟩⟩
    rw [show (16 : Int32) = nI 16 from rfl, pk_mul, nI_add, jr_cl (by omega)]
    refine K7.1.rd 827 1 (16 * p + t) rfl (by decide) vl ?_
    have e : gA h7 (R 827) (16 * p + t) = nI (nn d (16 * p + t)) := by
      obtain ⟨-, -, -, -, O7⟩ := K7
      rcases O7 with o | ⟨o1, ld, o2, o3, o4⟩
      · have := o.2.2.1; omega
      · exact (o4.get vl).1 v
    rw [e]
    exact k1 p t y rfl t1 t2 t3 h7 K7 t7 s7
  by_cases neg : x2 < 0
  · have nn : ∀ t, t < nS d → bas d t = pSh d p → x2 ≠ nI (cp d t) := fun t t1 t2 e => by
      have := cp_lt hd t1
      exact nI_pos (n := cp d t) (by omega) (by rw [← e]; exact neg)
    refine lp_inv (fun q => q = (nI (pSh d p), x2, x2, nI (pSh d p), h)) (fun _ => 0) ?_ _ rfl
    rintro q K3 rfl hK
    unfold wb_Mod_copySheet_5
    dsimp only
    exact ⟨S.1, fun _ => none nn, fun _ => ⟨fun _ => none nn, fun w => absurd neg w⟩⟩
  obtain ⟨m, m1, rfl⟩ := nI_of neg
  have z0 : cn (fun u => bas d u = pSh d p) (pSh d p) = 0 := by
    rw [cn_skip (m := 0) (by omega) fun u _ hu e => ?_, cn_0]
    have := (hd.2.1 u (by omega)).1
    omega
  refine lp_inv (fun q => ∃ t, t ≤ nS d ∧ cn (fun u => bas d u = pSh d p) t ≤ m ∧ q = (nI (pSh d p), nI m, nI (m - cn (fun u => bas d u = pSh d p) t), nI t, h)) (fun q => nS d - q.2.2.2.1.toNatClampNeg) ?_ _ ⟨pSh d p, by omega, by omega, by rw [z0]; rfl⟩
  rintro q K3 ⟨t, ht, hl, rfl⟩ hK
  have next : t < nS d → cn (fun u => bas d u = pSh d p) (t + 1) ≤ m → wj_Mod_copySheet_42 Z (fun r7 h8 => wj_Mod_netOf_27 Z post vm (nI p) r7 h8) K3 vm (nI (pSh d p)) (nI m) (nI (m - cn (fun u => bas d u = pSh d p) (t + 1))) (nI t) h := by
    intro z w
    rintro y rfl
    refine hK _ ⟨t + 1, by omega, w, by rw [nI_1]⟩ ?_
    dsimp only
    rw [nI_1, jr_cl (by omega), jr_cl (by omega)]; omega
  unfold wb_Mod_copySheet_5
  dsimp only
  refine ⟨S.1, ?_⟩
  rw [D.1.1]
  refine pk_le (nS d) t (fun z => none fun u u1 u2 e => ?_) (fun z => ⟨fun w => absurd w neg, fun _ => ⟨S.1, S.rd 803 1 t rfl (by decide) (by show t < 16; omega) ?_⟩⟩)
  · have cu := cp_lt hd u1
    rw [nI_eq m1 (by omega)] at e
    have : cn (fun u => bas d u = pSh d p) u < cn (fun u => bas d u = pSh d p) t := cn_lt (P := fun u => bas d u = pSh d p) (by omega) u2
    have e2 : cp d u = cn (fun u => bas d u = pSh d p) u := by unfold cp; rw [u2]
    omega
  have bt := (hd.2.1 t z).1
  rw [jr_cl (by omega), (D.2.1 t z).2, nI_eq (by omega) (by omega)]
  refine ⟨fun e => ⟨fun ne => ?_, fun e0 => some_ t z e ?_⟩, fun e => ?_⟩
  · have : cn (fun u => bas d u = pSh d p) t < m := by
      have : m - cn (fun u => bas d u = pSh d p) t ≠ 0 := fun w => ne (by rw [w]; rfl)
      omega
    rintro y rfl
    rw [dec_left this, ← cn_s (P := fun u => bas d u = pSh d p) e]
    exact next z (by rw [cn_s (P := fun u => bas d u = pSh d p) e]; omega)
  · rw [nI_z (by omega)] at e0
    rw [show m = cn (fun u => bas d u = pSh d p) t from by omega]
    unfold cp; rw [e]
  · rw [← cn_n (P := fun u => bas d u = pSh d p) e]
    exact next z (by rw [cn_n (P := fun u => bas d u = pSh d p) e]; exact hl)
end ROS
