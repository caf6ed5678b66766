section OPS3
variable {Z : Nat → Nat} {vx : Nat} {A : Nat → Nat → Nat} {B : Nat → Nat × Nat} {h : HS} {d : DS} {ch : Nat → Prop}
theorem sp_needLabelOn {post : HS → Prop} {exc : Nat → HS → Prop} {s : Nat} {x : Int32} (hd : WF d) (C : CD Z vx A B h d) (hs : s < nS d) (k0 : (∃ j, j < nL d ∧ x = nI j ∧ lSh d j = bas d s) → post h) (k1 : (¬ ∃ j, j < nL d ∧ x = nI j ∧ lSh d j = bas d s) → exc 1 h) : wp_NJ_needLabelOn Z post exc h vx (nI s) x := by
  have hS := hd.1.1
  have hL := hd.1.2.2.2.1
  refine ⟨fun z => k1 fun ⟨j, j1, j2, _⟩ => nI_pos (n := j) (by omega) (by rw [← j2]; exact z), fun z => ⟨C.x, A 1 3, C.p (by omega), C.lT (by omega), sp_size C.la ?_⟩⟩
  obtain ⟨l, l1, rfl⟩ := nI_of z
  refine pk_le (nL d) l (fun w => k1 fun ⟨j, j1, j2, _⟩ => ?_) (fun w => ⟨C.x, A 1 3, C.p (by omega), C.lT (by omega), sp_get C.la w ?_⟩)
  · rw [nI_eq (by omega) (by omega)] at j2; omega
  obtain ⟨p1, p2, p3, p4, p5, p6⟩ := C.L w
  obtain ⟨o1, o2, o3, o4, o5, o6⟩ := C.S hs
  have b1 := (hd.2.1 s hs).1
  have b2 := (hd.2.2.2.2.1 l w).1
  refine ⟨cst p1, A 6 l, rfl, p1, C.x, A 1 0, C.p (by omega), C.lT (by omega), sp_get C.sh hs ⟨cst o1, A 3 s, rfl, o1, ?_⟩⟩
  rw [p2, o4]
  refine pk_eq (lSh d l) (bas d s) (fun e => k0 ⟨l, w, rfl, e⟩) (fun e => k1 fun ⟨j, j1, j2, j3⟩ => ?_)
  rw [nI_eq (by omega) (by omega)] at j2
  subst j2; exact e j3
theorem sp_needParent {post : HS → Prop} {exc : Nat → HS → Prop} {s : Nat} (C : CD Z vx A B h d) (hs : s < nS d) (k0 : par d s ≠ -1 → post h) (k2 : ¬ par d s ≠ -1 → exc 2 h) : wp_NJ_needParent Z post exc h vx (nI s) := by
  obtain ⟨o1, o2, o3, o4, o5, o6⟩ := C.S hs
  refine ⟨C.x, A 1 0, C.p (by omega), C.lT (by omega), sp_get C.sh hs ⟨cst o1, A 3 s, rfl, o1, ?_⟩⟩
  rw [o3]
  exact ⟨fun w => k0 w, fun w => k2 fun y => y w⟩
theorem sp_hasPort {post : Int32 → HS → Prop} {s l n : Nat} (hd : WF d) (C : CD Z vx A B h d) (hs : s < 2 ^ 31) (hl : l < 2 ^ 31) (hn : n < 2 ^ 31) (k1 : (∃ k, k < nO d ∧ oSh d k = s ∧ oLb d k = l ∧ oNm d k = n) → post 1 h) (k0 : (¬ ∃ k, k < nO d ∧ oSh d k = s ∧ oLb d k = l ∧ oNm d k = n) → post 0 h) : wp_NJ_hasPort Z post h vx (nI s) (nI l) (nI n) := by
  have hS := hd.1.1
  have hL := hd.1.2.2.2.1
  have hO := hd.1.2.2.2.2.2.1
  refine lp_inv (fun q => ∃ i, i ≤ nO d ∧ q = (nI s, nI l, nI n, nI i, h) ∧ ∀ j, j < i → ¬ (oSh d j = s ∧ oLb d j = l ∧ oNm d j = n)) (fun q => nO d - q.2.2.2.1.toNatClampNeg) ?_ _ ⟨0, by omega, rfl, fun j hj => absurd hj (Nat.not_lt_zero _)⟩
  rintro q K ⟨i, hi, rfl, o⟩ hK
  have next : i < nO d → ¬ (oSh d i = s ∧ oLb d i = l ∧ oNm d i = n) → wj_NJ_hasPort_58 Z post K vx (nI s) (nI l) (nI n) (nI i) h := by
    intro z w
    rintro y rfl
    refine hK _ ⟨i + 1, by omega, by rw [nI_1], fun j hj => ?_⟩ ?_
    · by_cases y : j = i
      · subst y; exact w
      · exact o j (by omega)
    · dsimp only
      rw [nI_1, jr_cl (by omega), jr_cl (by omega)]; omega
  unfold wb_NJ_hasPort_3
  dsimp only
  refine ⟨C.x, A 1 6, C.p (by omega), C.lT (by omega), sp_size C.po (pk_le (nO d) i (fun z => k0 fun ⟨j, j1, j2⟩ => o j (by omega) j2) (fun z => ⟨C.x, A 1 6, C.p (by omega), C.lT (by omega), sp_get C.po z ?_⟩))⟩
  obtain ⟨p1, p2, p3, p4, p5⟩ := C.O z
  obtain ⟨w1, w2, w3, w4, w5⟩ := hd.2.2.2.2.2.2.1 i z
  refine ⟨cst p1, A 8 i, rfl, p1, ?_⟩
  rw [p2, nI_eq (by omega) hs]
  refine ⟨fun y => next z fun w => y w.1, fun y => ⟨A 8 i, rfl, p1, ?_⟩⟩
  rw [p3, nI_eq (by omega) hl]
  refine ⟨fun y2 => next z fun w => y2 w.2.1, fun y2 => ⟨A 8 i, rfl, p1, ?_⟩⟩
  rw [p4, nI_eq (by omega) hn]
  exact ⟨fun y3 => next z fun w => y3 w.2.2, fun y3 => k1 ⟨i, z, y, y2, y3⟩⟩
theorem sp_hasBus {post : Int32 → HS → Prop} {s n f t : Nat} (hd : WF d) (C : CD Z vx A B h d) (hs : s < 2 ^ 31) (hn : n < 2 ^ 31) (hf : f < 2 ^ 31) (ht : t < 2 ^ 31) (k1 : (∃ k, k < nU d ∧ uSh d k = s ∧ uNm d k = n ∧ uFr d k = f ∧ uTo d k = t) → post 1 h) (k0 : (¬ ∃ k, k < nU d ∧ uSh d k = s ∧ uNm d k = n ∧ uFr d k = f ∧ uTo d k = t) → post 0 h) : wp_NJ_hasBus Z post h vx (nI s) (nI n) (nI f) (nI t) := by
  have hS := hd.1.1
  have hU := hd.1.2.2.2.2.2.2
  refine lp_inv (fun q => ∃ i, i ≤ nU d ∧ q = (nI s, nI n, nI f, nI t, nI i, h) ∧ ∀ j, j < i → ¬ (uSh d j = s ∧ uNm d j = n ∧ uFr d j = f ∧ uTo d j = t)) (fun q => nU d - q.2.2.2.2.1.toNatClampNeg) ?_ _ ⟨0, by omega, rfl, fun j hj => absurd hj (Nat.not_lt_zero _)⟩
  rintro q K ⟨i, hi, rfl, o⟩ hK
  have next : i < nU d → ¬ (uSh d i = s ∧ uNm d i = n ∧ uFr d i = f ∧ uTo d i = t) → wj_NJ_hasBus_68 Z post K vx (nI s) (nI n) (nI f) (nI t) (nI i) h := by
    intro z w
    rintro y rfl
    refine hK _ ⟨i + 1, by omega, by rw [nI_1], fun j hj => ?_⟩ ?_
    · by_cases y : j = i
      · subst y; exact w
      · exact o j (by omega)
    · dsimp only
      rw [nI_1, jr_cl (by omega), jr_cl (by omega)]; omega
  unfold wb_NJ_hasBus_3
  dsimp only
  refine ⟨C.x, A 1 7, C.p (by omega), C.lT (by omega), sp_size C.bu (pk_le (nU d) i (fun z => k0 fun ⟨j, j1, j2⟩ => o j (by omega) j2) (fun z => ⟨C.x, A 1 7, C.p (by omega), C.lT (by omega), sp_get C.bu z ?_⟩))⟩
  obtain ⟨p1, p2, p3, p4, p5⟩ := C.U z
  obtain ⟨w1, w2, w3, w4, w5⟩ := hd.2.2.2.2.2.2.2 i z
  refine ⟨cst p1, A 9 i, rfl, p1, ?_⟩
  rw [p2, nI_eq (by omega) hs]
  refine ⟨fun y => next z fun w => y w.1, fun y => ⟨A 9 i, rfl, p1, ?_⟩⟩
  rw [p3, nI_eq (by omega) hn]
  refine ⟨fun y2 => next z fun w => y2 w.2.1, fun y2 => ⟨A 9 i, rfl, p1, ?_⟩⟩
  rw [p4, nI_eq (by omega) hf]
  refine ⟨fun y3 => next z fun w => y3 w.2.2.1, fun y3 => ⟨A 9 i, rfl, p1, ?_⟩⟩
  rw [p5, nI_eq (by omega) ht]
  exact ⟨fun y4 => next z fun w => y4 w.2.2.2, fun y4 => k1 ⟨i, z, y, y2, y3, y4⟩⟩
theorem sp_Port_init {post : HS → Prop} {q : Nat} {x1 x2 x3 x4 x5 : Int32} (t : gT h q = 20) (kk : ∀ h', gT h' q = 20 → gI h' 400 q = x1 → gI h' 401 q = x2 → gI h' 402 q = x3 → gI h' 403 q = x4 → gI h' 404 q = x5 → sm (fun a => a ≠ q) h h' → post h') : wp_Port_init Z post h q x1 x2 x3 x4 x5 := by
  refine ⟨t, ?_⟩
  intro h2 e2
  refine ⟨by rw [e2]; exact t, ?_⟩
  intro h4 e4
  refine ⟨by rw [e4, e2]; exact t, ?_⟩
  intro h6 e6
  refine ⟨by rw [e6, e4, e2]; exact t, ?_⟩
  intro h8 e8
  refine ⟨by rw [e8, e6, e4, e2]; exact t, ?_⟩
  intro h10 e10
  refine kk h10 ?_ ?_ ?_ ?_ ?_ ?_ ?_
  · rw [e10, e8, e6, e4, e2]; exact t
  · simp [e10, e8, e6, e4, e2, gI_sI]
  · simp [e10, e8, e6, e4, e2, gI_sI]
  · simp [e10, e8, e6, e4, e2, gI_sI]
  · simp [e10, e8, e6, e4, e2, gI_sI]
  · simp [e10, e8, e6, e4, e2, gI_sI]
  · intro u hu
    rw [e10, e8, e6, e4, e2]
    exact ce_tr (ce_sI hu) (ce_tr (ce_sI hu) (ce_tr (ce_sI hu) (ce_tr (ce_sI hu) (ce_sI hu))))
theorem sp_Bus_init {post : HS → Prop} {q : Nat} {x1 x2 x3 x4 : Int32} (t : gT h q = 17) (kk : ∀ h', gT h' q = 17 → gI h' 100 q = x1 → gI h' 101 q = x2 → gI h' 102 q = x3 → gI h' 103 q = x4 → sm (fun a => a ≠ q) h h' → post h') : wp_Bus_init Z post h q x1 x2 x3 x4 := by
  refine ⟨t, ?_⟩
  intro h2 e2
  refine ⟨by rw [e2]; exact t, ?_⟩
  intro h4 e4
  refine ⟨by rw [e4, e2]; exact t, ?_⟩
  intro h6 e6
  refine ⟨by rw [e6, e4, e2]; exact t, ?_⟩
  intro h8 e8
  refine kk h8 ?_ ?_ ?_ ?_ ?_ ?_
  · rw [e8, e6, e4, e2]; exact t
  · simp [e8, e6, e4, e2, gI_sI]
  · simp [e8, e6, e4, e2, gI_sI]
  · simp [e8, e6, e4, e2, gI_sI]
  · simp [e8, e6, e4, e2, gI_sI]
  · intro u hu
    rw [e8, e6, e4, e2]
    exact ce_tr (ce_sI hu) (ce_tr (ce_sI hu) (ce_tr (ce_sI hu) (ce_sI hu)))
theorem k_port {post : Int32 → HS → Prop} {exc : Nat → HS → Prop} {x1 x2 x3 : Int32} (K : KS Z vx A B h d ch) (k0 : ∀ n, o_port (d, ch) x1 x2 x3 = (n, 0, (d, ch)) → n = 1 ∨ n = 2 ∨ n = 3 → exc n h) (k1 : ∀ r s h' A' B', o_port (d, ch) x1 x2 x3 = (0, r, s) → r = 0 ∨ r = 1 → KS Z vx A' B' h' s.1 s.2 → mv 20 100 A A' B B' h h' → post r h') : wp_NJ_port Z post exc h vx x1 x2 x3 := by
  have K0 := K
  obtain ⟨hd, z, ⟨pm, hp, CB0⟩, I, F1, F2⟩ := K
  have hS := hd.1.1
  have hL := hd.1.2.2.2.1
  have hO := hd.1.2.2.2.2.2.1
  have C := CB0.1.1
  refine ⟨C.x, sp_needSheet hd C (fun is => ?_) (fun n => k0 1 (by unfold o_port; rw [cif_f (fun w => n w.1)]) (Or.inl rfl))⟩
  obtain ⟨s, sl, es⟩ := id is
  have et : tn x1 = s := by rw [es]; exact tn_nI (by omega)
  subst es
  refine ⟨C.x, sp_needLabelOn hd C sl (fun il => ?_) (fun n => k0 1 (by unfold o_port; rw [et, cif_f (fun w => n w.2)]) (Or.inl rfl))⟩
  obtain ⟨l, ll, el, els⟩ := id il
  subst el
  have e1 : ∀ a b : OUT, cif (isS d (nI s) ∧ ∃ j, j < nL d ∧ nI l = nI j ∧ lSh d j = bas d s) a b = a := fun a b => cif_t ⟨is, il⟩
  refine ⟨C.x, sp_needParent C sl (fun pn => ?_) (fun n => k0 2 (by unfold o_port; rw [et, e1, cif_f n]) (Or.inr (Or.inl rfl)))⟩
  refine sp_needName (fun nn => ?_) (fun n => k0 3 (by unfold o_port; rw [et, e1, cif_t pn, cif_f (p := isN x3) n]) (Or.inr (Or.inr rfl)))
  obtain ⟨nm, n1, rfl⟩ := id nn
  have eo : o_port (d, ch) (nI s) (nI l) (nI nm) = cif (nO d = 30 ∨ ∃ k, k < nO d ∧ oSh d k = s ∧ oLb d k = l ∧ oNm d k = nm) (0, 0, (d, ch)) (0, 1, nx (d, ch) (dPo d s l nm)) := by
    unfold o_port
    rw [et, tn_nI (n := l) (by omega), tn_nI (n := nm) (by omega), e1, cif_t pn, cif_t (p := isN (nI nm)) nn]
  refine ⟨C.x, A 1 6, C.p (by omega), C.lT (by omega), sp_size C.po (pk_le 30 (nO d) (fun w => ?_) (fun w => ⟨C.x, ?_⟩))⟩
  · exact k1 _ _ h A B (by rw [eo, cif_t (Or.inl (by omega))]) (Or.inl rfl) K0 mv.rf
  refine sp_hasPort hd C (by omega) (by omega) (by omega) (fun ex => ⟨fun y => absurd y (by decide), fun _ => k1 _ _ h A B (by rw [eo, cif_t (Or.inr ex)]) (Or.inl rfl) K0 mv.rf⟩) (fun no => ⟨fun _ => ⟨C.x, A 1 3, C.p (by omega), C.lT (by omega), sp_get C.la ll ?_⟩, fun y => absurd rfl y⟩)
  have eo' : o_port (d, ch) (nI s) (nI l) (nI nm) = (0, 1, nx (d, ch) (dPo d s l nm)) := by
    rw [eo, cif_f]
    rintro (y | y)
    · omega
    · exact no y
  obtain ⟨p1, p2, p3, p4, p5, p6⟩ := C.L ll
  have ln := (hd.2.2.2.2.1 l ll).2.2
  obtain ⟨o1, o2, o3, o4, o5, o6⟩ := C.S sl
  have epr : ∃ p, p < nS d ∧ par d s = nI p := by
    rcases (hd.2.1 s sl).2.2 with y | y
    · exact absurd y pn
    · exact y
  obtain ⟨p, pl, pe⟩ := epr
  have prs : pr d s = p := by unfold pr; rw [pe]; exact jr_cl (by omega)
  refine ⟨cst p1, A 6 l, rfl, p1, ?_⟩
  rw [p5]
  refine sp_nameNode (by omega) ln ⟨C.x, A 1 0, C.p (by omega), C.lT (by omega), sp_get C.sh sl ⟨cst o1, A 3 s, rfl, o1, ?_⟩⟩
  rw [o3, pe]
  refine sp_nameNode (by omega) n1 ⟨C.x, ?_⟩
  intro q hq
  intro h1 e1
  have t1 : gT h1 q = 20 := by rw [e1, gT_nH2, if_pos rfl]
  have s1 : ∀ a, gT h a ≠ 0 → ce h h1 a := fun a ha => by rw [e1]; exact ce_nH fun w => ha (by rw [w]; exact hq)
  clear e1
  refine sp_Port_init t1 fun h2 i1 i2 i3 i4 i5 i6 s2 => ?_
  have s12 : ∀ a, gT h a ≠ 0 → ce h h2 a := fun a ha => ce_tr (s1 a ha) (s2 a fun w => ha (by rw [w]; exact hq))
  have cl := s12 (A 1 6) (by rw [C.lT (by omega)]; decide)
  refine ⟨A 1 6, C.p (by omega), by rw [cl.T]; exact C.lT (by omega), ?_⟩
  have ob : obO h2 (dPo d s l nm) q (nO d) := by
    refine ⟨i1, by rw [i2]; simp [dPo, dN_eN, dL_eL, dI_eI, dL_eN, dI_eN, dN_eL, dI_eL, dN_eI, dL_eI, nS, nW, nJ, nL, nP, nO, nU, bas, wSh, wDr, jSh, lSh, lNm, pSh, pOp, oSh, oLb, oNm, uSh, uNm, uFr, uTo, wX, wY, wX2, wY2, jX, jY, lX, lY, pX, pY, par, pPt, rnk], by rw [i3]; simp [dPo, dN_eN, dL_eL, dI_eI, dL_eN, dI_eN, dN_eL, dI_eL, dN_eI, dL_eI, nS, nW, nJ, nL, nP, nO, nU, bas, wSh, wDr, jSh, lSh, lNm, pSh, pOp, oSh, oLb, oNm, uSh, uNm, uFr, uTo, wX, wY, wX2, wY2, jX, jY, lX, lY, pX, pY, par, pPt, rnk], by rw [i4]; simp [dPo, dN_eN, dL_eL, dI_eI, dL_eN, dI_eN, dN_eL, dI_eL, dN_eI, dL_eI, nS, nW, nJ, nL, nP, nO, nU, bas, wSh, wDr, jSh, lSh, lNm, pSh, pOp, oSh, oLb, oNm, uSh, uNm, uFr, uTo, wX, wY, wX2, wY2, jX, jY, lX, lY, pX, pY, par, pPt, rnk], ?_, ?_⟩
    · rw [i5]; simp [dPo, dN_eN, dL_eL, dI_eI, dL_eN, dI_eN, dN_eL, dI_eL, dN_eI, dL_eI, nS, nW, nJ, nL, nP, nO, nU, bas, wSh, wDr, jSh, lSh, lNm, pSh, pOp, oSh, oLb, oNm, uSh, uNm, uFr, uTo, wX, wY, wX2, wY2, jX, jY, lX, lY, pX, pY, par, pPt, rnk]
    · rw [i6]
      have : pr (dPo d s l nm) s = p := by rw [← prs]; simp [pr, dPo, dN_eN, dL_eL, dI_eI, dL_eN, dI_eN, dN_eL, dI_eL, dN_eI, dL_eI, nS, nW, nJ, nL, nP, nO, nU, bas, wSh, wDr, jSh, lSh, lNm, pSh, pOp, oSh, oLb, oNm, uSh, uNm, uFr, uTo, wX, wY, wX2, wY2, jX, jY, lX, lY, pX, pY, par, pPt, rnk]
      have e9 : oSh (dPo d s l nm) (nO d) = s ∧ oNm (dPo d s l nm) (nO d) = nm := by simp [dPo, dN_eN, dL_eL, dI_eI, dL_eN, dI_eN, dN_eL, dI_eL, dN_eI, dL_eI, nS, nW, nJ, nL, nP, nO, nU, bas, wSh, wDr, jSh, lSh, lNm, pSh, pOp, oSh, oLb, oNm, uSh, uNm, uFr, uTo, wX, wY, wX2, wY2, jX, jY, lX, lY, pX, pY, par, pPt, rnk]
      rw [e9.1, e9.2, this]
  obtain ⟨ct1, ct2, ct3⟩ := ct_po (d := d) s l nm
  refine sp_addObj (r := 8) C CB0.2.1 (by omega) (by omega) rfl (by show nO d < 100; omega) hq (fun a ha _ => s12 a ha) ob (fun i hi => ob_po hd s l nm (by omega) (by omega) hi (obj_frame (s12 _ (lsT_ne (C.lvA (by omega) (by omega) hi)).1) ((C.2.1 8 (by omega) (by omega)).2 i hi).1)) (fun r' h3 h9 hr => ⟨ct2 r' h3 h9 hr, fun i g a hi o => ob_po hd s _ _ h3 h9 hi o⟩) ct1 ct3 fun h3 A3 B3 C3 V3 m3 Q3 v3 b3 a3 cx3 => ?_
  have hd' : WF (dPo d s l nm) := WF_po hd sl ll els n1 pl pe w
  have nS' : nS (dPo d s l nm) = nS d := by simp [dPo, dN_eN, dL_eL, dI_eI, dL_eN, dI_eN, dN_eL, dI_eL, dN_eI, dL_eI, nS, nW, nJ, nL, nP, nO, nU, bas, wSh, wDr, jSh, lSh, lNm, pSh, pOp, oSh, oLb, oNm, uSh, uNm, uFr, uTo, wX, wY, wX2, wY2, jX, jY, lX, lY, pX, pY, par, pPt, rnk]
  have nL' : nL (dPo d s l nm) = nL d := by simp [dPo, dN_eN, dL_eL, dI_eI, dL_eN, dI_eN, dN_eL, dI_eL, dN_eI, dL_eI, nS, nW, nJ, nL, nP, nO, nU, bas, wSh, wDr, jSh, lSh, lNm, pSh, pOp, oSh, oLb, oNm, uSh, uNm, uFr, uTo, wX, wY, wX2, wY2, jX, jY, lX, lY, pX, pY, par, pPt, rnk]
  have lN' : ∀ l', lNm (dPo d s l nm) l' = lNm d l' := fun l' => by simp [dPo, dN_eN, dL_eL, dI_eI, dL_eN, dI_eN, dN_eL, dI_eL, dN_eI, dL_eI, nS, nW, nJ, nL, nP, nO, nU, bas, wSh, wDr, jSh, lSh, lNm, pSh, pOp, oSh, oLb, oNm, uSh, uNm, uFr, uTo, wX, wY, wX2, wY2, jX, jY, lX, lY, pX, pY, par, pPt, rnk]
  have X3 : XX Z vx A3 B3 h3 (dPo d s l nm) (TT d) (SC d) := CB0.1.ad nS' v3 b3 m3 C3
  have R3 : Rst Z vx A3 B3 h3 d (nL (dPo d s l nm)) pm := Rst.ad CB0 hp nL' v3 b3 m3 V3 Q3
  have hp' : PM (dPo d s l nm) pm := by
    unfold PM; rw [nL']; simp only [lN']; exact hp
  have zb := zb_po s l nm z
  have gr := gr_po (d := d) s l nm
  have tt : TT (dPo d s l nm) = TT d := TT_po s l nm
  have sc := SC_po hd (s := s) (l := l) (nm := nm)
  rw [prs] at sc
  generalize dPo d s l nm = d' at *
  obtain ⟨-, ⟨lt, T3, L3⟩, lj, J3, M3⟩ := id X3
  have XJ3 : XJ Z vx A3 B3 h3 d' lt (SC d) := ⟨C3, T3, lj, J3, M3⟩
  refine ⟨C3.x, A3 13 0, XJ3.up.1, XJ3.up.2, XJ3.join (by rw [nS']; exact vl_nm sl hS ln) (by rw [nS']; exact vl_nm pl hS n1) fun h4 X4 s4 => ⟨X4.1.x, ?_⟩⟩
  obtain ⟨C4, T4, J4⟩ := X4
  rw [← sc] at J4
  refine KS_fin hd hd' zb gr hp' ⟨C4, ⟨lt, T4, by rw [tt]; exact L3⟩, J4⟩ (R3.s2 C3 s4) fun h5 K5 m5 => k1 _ _ h5 A3 B3 eo' (Or.inr rfl) K5 ?_
  exact (m3.sub (by omega) (by omega)).tr ((mv.s2 s4 (by omega)).tr m5)
theorem k_bus {post : Int32 → HS → Prop} {exc : Nat → HS → Prop} {x1 x2 x3 x4 : Int32} (K : KS Z vx A B h d ch) (k0 : ∀ n, o_bus (d, ch) x1 x2 x3 x4 = (n, 0, (d, ch)) → n = 1 ∨ n = 2 ∨ n = 3 → exc n h) (k1 : ∀ r s h' A' B', o_bus (d, ch) x1 x2 x3 x4 = (0, r, s) → r = 0 ∨ r = 1 → KS Z vx A' B' h' s.1 s.2 → mv 20 100 A A' B B' h h' → post r h') : wp_NJ_bus Z post exc h vx x1 x2 x3 x4 := by
  have K0 := K
  obtain ⟨hd, z, ⟨pm, hp, CB0⟩, I, F1, F2⟩ := K
  have hS := hd.1.1
  have hU := hd.1.2.2.2.2.2.2
  have C := CB0.1.1
  refine ⟨C.x, sp_needDrawn hd C (fun ⟨s, hs, es⟩ => ?_) (fun n => k0 1 (o_ref1 n) (Or.inl rfl)) (fun ⟨s, s1, s2, s3⟩ => k0 2 (o_ref2 hS s1 s2 s3) (Or.inr (Or.inl rfl)))⟩
  have e3 : ¬ (isN x2 ∧ isN x3 ∧ isN x4) → exc 3 h := fun n => k0 3 (o_ref3 hs es n) (Or.inr (Or.inr rfl))
  refine sp_needName (fun p1 => sp_needName (fun p2 => sp_needName (fun p3 => ?_) fun n => e3 fun w => n w.2.2) fun n => e3 fun w => n w.2.1) fun n => e3 fun w => n w.1
  have eo : o_bus (d, ch) x1 x2 x3 x4 = cif (nU d = 16 ∨ ∃ k, k < nU d ∧ uSh d k = tn x1 ∧ uNm d k = tn x2 ∧ uFr d k = tn x3 ∧ uTo d k = tn x4) (0, 0, (d, ch)) (0, 1, nx (d, ch) (dBu d (tn x1) (tn x2) (tn x3) (tn x4))) := o_ref0 hs es ⟨p1, p2, p3⟩
  obtain ⟨nm, n1, rfl⟩ := p1
  obtain ⟨f, f1, rfl⟩ := p2
  obtain ⟨t, t1', rfl⟩ := p3
  have sl := hs.1
  subst es
  rw [tn_nI (n := s) (by omega), tn_nI (n := nm) (by omega), tn_nI (n := f) (by omega), tn_nI (n := t) (by omega)] at eo
  refine ⟨C.x, A 1 7, C.p (by omega), C.lT (by omega), sp_size C.bu (pk_le 16 (nU d) (fun w => ?_) (fun w => ⟨C.x, ?_⟩))⟩
  · exact k1 _ _ h A B (by rw [eo, cif_t (Or.inl (by omega))]) (Or.inl rfl) K0 mv.rf
  refine sp_hasBus hd C (by omega) (by omega) (by omega) (by omega) (fun ex => ⟨fun y => absurd y (by decide), fun _ => k1 _ _ h A B (by rw [eo, cif_t (Or.inr ex)]) (Or.inl rfl) K0 mv.rf⟩) (fun no => ⟨fun _ => ⟨C.x, ?_⟩, fun y => absurd rfl y⟩)
  have eo' : o_bus (d, ch) (nI s) (nI nm) (nI f) (nI t) = (0, 1, nx (d, ch) (dBu d s nm f t)) := by
    rw [eo, cif_f]
    rintro (y | y)
    · omega
    · exact no y
  intro q hq
  intro h1 e1
  have t1 : gT h1 q = 17 := by rw [e1, gT_nH2, if_pos rfl]
  have s1 : ∀ a, gT h a ≠ 0 → ce h h1 a := fun a ha => by rw [e1]; exact ce_nH fun w => ha (by rw [w]; exact hq)
  clear e1
  refine sp_Bus_init t1 fun h2 i1 i2 i3 i4 i5 s2 => ?_
  have s12 : ∀ a, gT h a ≠ 0 → ce h h2 a := fun a ha => ce_tr (s1 a ha) (s2 a fun w => ha (by rw [w]; exact hq))
  have cl := s12 (A 1 7) (by rw [C.lT (by omega)]; decide)
  refine ⟨A 1 7, C.p (by omega), by rw [cl.T]; exact C.lT (by omega), ?_⟩
  have ob : obU h2 (dBu d s nm f t) q (nU d) := by
    refine ⟨i1, by rw [i2]; simp [dBu, dN_eN, dL_eL, dI_eI, dL_eN, dI_eN, dN_eL, dI_eL, dN_eI, dL_eI, nS, nW, nJ, nL, nP, nO, nU, bas, wSh, wDr, jSh, lSh, lNm, pSh, pOp, oSh, oLb, oNm, uSh, uNm, uFr, uTo, wX, wY, wX2, wY2, jX, jY, lX, lY, pX, pY, par, pPt, rnk], by rw [i3]; simp [dBu, dN_eN, dL_eL, dI_eI, dL_eN, dI_eN, dN_eL, dI_eL, dN_eI, dL_eI, nS, nW, nJ, nL, nP, nO, nU, bas, wSh, wDr, jSh, lSh, lNm, pSh, pOp, oSh, oLb, oNm, uSh, uNm, uFr, uTo, wX, wY, wX2, wY2, jX, jY, lX, lY, pX, pY, par, pPt, rnk], by rw [i4]; simp [dBu, dN_eN, dL_eL, dI_eI, dL_eN, dI_eN, dN_eL, dI_eL, dN_eI, dL_eI, nS, nW, nJ, nL, nP, nO, nU, bas, wSh, wDr, jSh, lSh, lNm, pSh, pOp, oSh, oLb, oNm, uSh, uNm, uFr, uTo, wX, wY, wX2, wY2, jX, jY, lX, lY, pX, pY, par, pPt, rnk], by rw [i5]; simp [dBu, dN_eN, dL_eL, dI_eI, dL_eN, dI_eN, dN_eL, dI_eL, dN_eI, dL_eI, nS, nW, nJ, nL, nP, nO, nU, bas, wSh, wDr, jSh, lSh, lNm, pSh, pOp, oSh, oLb, oNm, uSh, uNm, uFr, uTo, wX, wY, wX2, wY2, jX, jY, lX, lY, pX, pY, par, pPt, rnk]⟩
  obtain ⟨ct1, ct2, ct3⟩ := ct_bu (d := d) s nm f t
  refine sp_addObj (r := 9) C CB0.2.1 (by omega) (by omega) rfl (by show nU d < 100; omega) hq (fun a ha _ => s12 a ha) ob (fun i hi => ob_bu hd s nm f t (by omega) (by omega) hi (obj_frame (s12 _ (lsT_ne (C.lvA (by omega) (by omega) hi)).1) ((C.2.1 9 (by omega) (by omega)).2 i hi).1)) (fun r' h3 h9 hr => ⟨ct2 r' h3 h9 hr, fun i g a hi o => ob_bu hd s _ _ _ h3 h9 hi o⟩) ct1 ct3 fun h3 A3 B3 C3 V3 m3 Q3 v3 b3 a3 cx3 => ?_
  have hd' : WF (dBu d s nm f t) := WF_bu hd hs n1 f1 t1' w
  have nS' : nS (dBu d s nm f t) = nS d := by simp [dBu, dN_eN, dL_eL, dI_eI, dL_eN, dI_eN, dN_eL, dI_eL, dN_eI, dL_eI, nS, nW, nJ, nL, nP, nO, nU, bas, wSh, wDr, jSh, lSh, lNm, pSh, pOp, oSh, oLb, oNm, uSh, uNm, uFr, uTo, wX, wY, wX2, wY2, jX, jY, lX, lY, pX, pY, par, pPt, rnk]
  have nU' : nU (dBu d s nm f t) = nU d + 1 := by simp [dBu, dN_eN, dL_eL, dI_eI, dL_eN, dI_eN, dN_eL, dI_eL, dN_eI, dL_eI, nS, nW, nJ, nL, nP, nO, nU, bas, wSh, wDr, jSh, lSh, lNm, pSh, pOp, oSh, oLb, oNm, uSh, uNm, uFr, uTo, wX, wY, wX2, wY2, jX, jY, lX, lY, pX, pY, par, pPt, rnk]
  have nL' : nL (dBu d s nm f t) = nL d := by simp [dBu, dN_eN, dL_eL, dI_eI, dL_eN, dI_eN, dN_eL, dI_eL, dN_eI, dL_eI, nS, nW, nJ, nL, nP, nO, nU, bas, wSh, wDr, jSh, lSh, lNm, pSh, pOp, oSh, oLb, oNm, uSh, uNm, uFr, uTo, wX, wY, wX2, wY2, jX, jY, lX, lY, pX, pY, par, pPt, rnk]
  have bs' : ∀ u, bas (dBu d s nm f t) u = bas d u := fun u => by simp [dBu, dN_eN, dL_eL, dI_eI, dL_eN, dI_eN, dN_eL, dI_eL, dN_eI, dL_eI, nS, nW, nJ, nL, nP, nO, nU, bas, wSh, wDr, jSh, lSh, lNm, pSh, pOp, oSh, oLb, oNm, uSh, uNm, uFr, uTo, wX, wY, wX2, wY2, jX, jY, lX, lY, pX, pY, par, pPt, rnk]
  have lN' : ∀ l', lNm (dBu d s nm f t) l' = lNm d l' := fun l' => by simp [dBu, dN_eN, dL_eL, dI_eI, dL_eN, dI_eN, dN_eL, dI_eL, dN_eI, dL_eI, nS, nW, nJ, nL, nP, nO, nU, bas, wSh, wDr, jSh, lSh, lNm, pSh, pOp, oSh, oLb, oNm, uSh, uNm, uFr, uTo, wX, wY, wX2, wY2, jX, jY, lX, lY, pX, pY, par, pPt, rnk]
  have X3 : XX Z vx A3 B3 h3 (dBu d s nm f t) (TT d) (SC d) := CB0.1.ad nS' v3 b3 m3 C3
  have R3 : Rst Z vx A3 B3 h3 d (nL (dBu d s nm f t)) pm := Rst.ad CB0 hp nL' v3 b3 m3 V3 Q3
  have hp' : PM (dBu d s nm f t) pm := by
    unfold PM; rw [nL']; simp only [lN']; exact hp
  have zb := zb_bu s nm f t z
  have gr := gr_bu (d := d) s nm f t
  have tt : TT (dBu d s nm f t) = TT d := TT_bu s nm f t
  have sc := SC_bu hd (s := s) (nm := nm) (f := f) (t := t)
  generalize dBu d s nm f t = d' at *
  obtain ⟨-, ⟨lt, T3, L3⟩, lj, J3, M3⟩ := id X3
  have XJ3 : XJ Z vx A3 B3 h3 d' lt (SC d) := ⟨C3, T3, lj, J3, M3⟩
  refine lp_inv (fun p => ∃ i, i ≤ nS d' ∧ p.1 = nI s ∧ p.2.1 = nI (nU d) ∧ p.2.2.1 = nI i ∧ XJ Z vx A3 B3 p.2.2.2 d' lt (acc (SC d) (fun u x y => bas d' u = s ∧ JB d' (nU d) u x y) i) ∧ sm2 B3 h3 p.2.2.2) (fun p => nS d' - p.2.2.1.toNatClampNeg) ?_ _ ⟨0, by omega, rfl, rfl, rfl, XJ3.eq (acc_0 _ _), sm_rf⟩
  rintro ⟨y1, y2, y3, h4⟩ K ⟨i, hi, g1, g2, g3, X4, s4⟩ hK
  dsimp only at g1 g2 g3 X4 s4
  subst g1 g2 g3
  have next : ∀ h5, XJ Z vx A3 B3 h5 d' lt (acc (SC d) (fun u x y => bas d' u = s ∧ JB d' (nU d) u x y) (i + 1)) → sm2 B3 h3 h5 → i < nS d' → wj_NJ_bus_110 Z post exc K vx (nI s) (nI (nU d)) (nI i) h5 := by
    intro h5 X5 s5 hi
    rintro y rfl
    refine hK _ ⟨i + 1, by omega, rfl, rfl, nI_1 i, X5, s5⟩ ?_
    dsimp only
    rw [nI_1, jr_cl (by omega), jr_cl (by omega)]; omega
  have C4 := X4.1
  unfold wb_NJ_bus_71
  dsimp only
  refine ⟨C4.x, A3 1 0, C4.p (by omega), C4.lT (by omega), sp_size C4.sh (pk_le (nS d') i (fun y => ⟨C4.x, ?_⟩) (fun y => ⟨C4.x, A3 1 0, C4.p (by omega), C4.lT (by omega), sp_get C4.sh y ?_⟩))⟩
  · have e9 : acc (SC d) (fun u x y => bas d' u = s ∧ JB d' (nU d) u x y) i = SC d' := by
      rw [sc, show i = nS d from by omega]
      funext x y
      unfold acc
      simp only [bs']
    obtain ⟨C5, T5, J5⟩ := X4
    rw [e9] at J5
    refine KS_fin hd hd' zb gr hp' ⟨C5, ⟨lt, T5, by rw [tt]; exact L3⟩, J5⟩ (R3.s2 C3 s4) fun h5 K5 m5 => k1 _ _ h5 A3 B3 eo' (Or.inr rfl) K5 ?_
    exact (m3.sub (by omega) (by omega)).tr ((mv.s2 s4 (by omega)).tr m5)
  · obtain ⟨o1, o2, o3, o4, o5, o6⟩ := C4.S y
    have bt := (hd'.2.1 i y).1
    refine ⟨cst o1, A3 3 i, rfl, o1, ?_⟩
    rw [o4]
    refine ⟨fun c => next h4 (X4.eq (acc_n fun x y p => c (by rw [p.1]))) s4 y, fun c => ⟨C4.x, sp_joinBus hd' X4 (by omega) y fun h5 X5 s5 => next h5 (X5.eq ?_) (sm_tr s4 s5) y⟩⟩
    have c' : bas d' i = s := (nI_eq (by omega) (by omega)).mp c
    rw [acc_s]
    funext x y
    refine propext ⟨fun z => ?_, fun z => ?_⟩
    · rcases z with z | z
      · exact Or.inl z
      · exact Or.inr z.2
    · rcases z with z | z
      · exact Or.inl z
      · exact Or.inr ⟨c', z⟩
end OPS3
