section OPS2
variable {Z : Nat → Nat} {vx : Nat} {A : Nat → Nat → Nat} {B : Nat → Nat × Nat} {h : HS} {d : DS} {ch : Nat → Prop}
theorem k_junction {post : Int32 → HS → Prop} {exc : Nat → HS → Prop} {x1 : Int32} {a b : Int64} (K : KS Z vx A B h d ch) (k0 : ∀ n, o_junction (d, ch) x1 a b = (n, 0, (d, ch)) → n = 1 ∨ n = 2 ∨ n = 3 → exc n h) (k1 : ∀ r s h' A' B', o_junction (d, ch) x1 a b = (0, r, s) → r = 0 ∨ r = 1 → KS Z vx A' B' h' s.1 s.2 → mv 20 100 A A' B B' h h' → post r h') : wp_NJ_junction Z post exc h vx x1 a b := by
  have K0 := K
  obtain ⟨hd, z, ⟨pm, hp, CB0⟩, I, F1, F2⟩ := K
  have hS := hd.1.1
  have hJ := hd.1.2.2.1
  have C := CB0.1.1
  refine ⟨C.x, sp_needDrawn hd C (fun ⟨s, hs, es⟩ => ?_) (fun n => k0 1 (o_ref1 n) (Or.inl rfl)) (fun ⟨s, s1, s2, s3⟩ => k0 2 (o_ref2 hS s1 s2 s3) (Or.inr (Or.inl rfl)))⟩
  refine sp_needPlace (fun p1 => ?_) fun n => k0 3 (o_ref3 hs es n) (Or.inr (Or.inr rfl))
  have eo : o_junction (d, ch) x1 a b = cif (nJ d = 50 ∨ ∃ k, k < nJ d ∧ jSh d k = tn x1 ∧ jX d k = a ∧ jY d k = b) (0, 0, (d, ch)) (0, 1, nx (d, ch) (dJu d (tn x1) a b)) := o_ref0 hs es p1
  have sl := hs.1
  have et : tn x1 = s := by rw [es]; exact tn_nI (by omega)
  rw [et] at eo
  refine ⟨C.x, A 1 2, C.p (by omega), C.lT (by omega), sp_size C.ju (pk_le 50 (nJ d) (fun w => ?_) (fun w => ⟨C.x, ?_⟩))⟩
  · exact k1 _ _ h A B (by rw [eo, cif_t (Or.inl (by omega))]) (Or.inl rfl) K0 mv.rf
  rw [C.p (k := 2) (by omega), es]
  have iff : ∀ i, i < nJ d → ((gI h 600 (A 5 i) = nI s ∧ gJ h 601 (A 5 i) = a ∧ gJ h 602 (A 5 i) = b) ↔ (jSh d i = s ∧ jX d i = a ∧ jY d i = b)) := by
    intro i hi
    obtain ⟨p1, p2, p3, p4⟩ := C.J hi
    have := (hd.2.2.2.1 i hi).1
    rw [p2, p3, p4, nI_eq (by omega) (by omega)]
  refine sp_hasSpotAt C.ju (fun i hi => (C.J hi).1) (fun ⟨i, i1, i2⟩ => ⟨fun y => absurd y (by decide), fun _ => k1 _ _ h A B (by rw [eo, cif_t (Or.inr ⟨i, i1, (iff i i1).mp i2⟩)]) (Or.inl rfl) K0 mv.rf⟩) (fun no => ⟨fun _ => ?_, fun y => absurd rfl y⟩)
  have eo' : o_junction (d, ch) x1 a b = (0, 1, nx (d, ch) (dJu d s a b)) := by
    rw [eo, cif_f]
    rintro (y | ⟨k, y1, y2⟩)
    · omega
    · exact no ⟨k, y1, (iff k y1).mpr y2⟩
  intro q hq
  intro h1 e1
  have t1 : gT h1 q = 22 := by rw [e1, gT_nH2, if_pos rfl]
  have s1 : ∀ a, gT h a ≠ 0 → ce h h1 a := fun a ha => by rw [e1]; exact ce_nH fun w => ha (by rw [w]; exact hq)
  clear e1
  refine sp_Spot_init t1 fun h2 i1 i2 i3 i4 i5 i6 i7 s2 => ?_
  have s12 : ∀ a, gT h a ≠ 0 → ce h h2 a := fun a ha => ce_tr (s1 a ha) (s2 a fun w => ha (by rw [w]; exact hq))
  have cx := s12 vx (by rw [C.x]; decide)
  have cl := s12 (A 1 2) (by rw [C.lT (by omega)]; decide)
  refine ⟨by rw [cx.T]; exact C.x, A 1 2, by rw [cx.R]; exact C.p (by omega), by rw [cl.T]; exact C.lT (by omega), ?_⟩
  have ob : obJ h2 (dJu d s a b) q (nJ d) := by
    refine ⟨i1, by rw [i2]; simp [dJu, dN_eN, dL_eL, dI_eI, dL_eN, dI_eN, dN_eL, dI_eL, dN_eI, dL_eI, nS, nW, nJ, nL, nP, nO, nU, bas, wSh, wDr, jSh, lSh, lNm, pSh, pOp, oSh, oLb, oNm, uSh, uNm, uFr, uTo, wX, wY, wX2, wY2, jX, jY, lX, lY, pX, pY, par, pPt, rnk], by rw [i3]; simp [dJu, dN_eN, dL_eL, dI_eI, dL_eN, dI_eN, dN_eL, dI_eL, dN_eI, dL_eI, nS, nW, nJ, nL, nP, nO, nU, bas, wSh, wDr, jSh, lSh, lNm, pSh, pOp, oSh, oLb, oNm, uSh, uNm, uFr, uTo, wX, wY, wX2, wY2, jX, jY, lX, lY, pX, pY, par, pPt, rnk], by rw [i4]; simp [dJu, dN_eN, dL_eL, dI_eI, dL_eN, dI_eN, dN_eL, dI_eL, dN_eI, dL_eI, nS, nW, nJ, nL, nP, nO, nU, bas, wSh, wDr, jSh, lSh, lNm, pSh, pOp, oSh, oLb, oNm, uSh, uNm, uFr, uTo, wX, wY, wX2, wY2, jX, jY, lX, lY, pX, pY, par, pPt, rnk]⟩
  obtain ⟨ct1, ct2, ct3⟩ := ct_ju (d := d) s a b
  refine sp_addObj (r := 5) C CB0.2.1 (by omega) (by omega) rfl (by show nJ d < 100; omega) hq (fun a ha _ => s12 a ha) ob (fun i hi => ob_ju hd s a b (by omega) (by omega) hi (obj_frame (s12 _ (lsT_ne (C.lvA (by omega) (by omega) hi)).1) ((C.2.1 5 (by omega) (by omega)).2 i hi).1)) (fun r' h3 h9 hr => ⟨ct2 r' h3 h9 hr, fun i g a hi o => ob_ju hd s _ _ h3 h9 hi o⟩) ct1 ct3 fun h3 A3 B3 C3 V3 m3 Q3 v3 b3 a3 cx3 => ?_
  have hd' : WF (dJu d s a b) := WF_ju hd hs w
  obtain ⟨E, SBx, Nw⟩ := ext_ju (d := d) s a b
  have nS' : nS (dJu d s a b) = nS d := by simp [dJu, dN_eN, dL_eL, dI_eI, dL_eN, dI_eN, dN_eL, dI_eL, dN_eI, dL_eI, nS, nW, nJ, nL, nP, nO, nU, bas, wSh, wDr, jSh, lSh, lNm, pSh, pOp, oSh, oLb, oNm, uSh, uNm, uFr, uTo, wX, wY, wX2, wY2, jX, jY, lX, lY, pX, pY, par, pPt, rnk]
  have nW' : nW (dJu d s a b) = nW d := by simp [dJu, dN_eN, dL_eL, dI_eI, dL_eN, dI_eN, dN_eL, dI_eL, dN_eI, dL_eI, nS, nW, nJ, nL, nP, nO, nU, bas, wSh, wDr, jSh, lSh, lNm, pSh, pOp, oSh, oLb, oNm, uSh, uNm, uFr, uTo, wX, wY, wX2, wY2, jX, jY, lX, lY, pX, pY, par, pPt, rnk]
  have nJ' : nJ (dJu d s a b) = nJ d + 1 := by simp [dJu, dN_eN, dL_eL, dI_eI, dL_eN, dI_eN, dN_eL, dI_eL, dN_eI, dL_eI, nS, nW, nJ, nL, nP, nO, nU, bas, wSh, wDr, jSh, lSh, lNm, pSh, pOp, oSh, oLb, oNm, uSh, uNm, uFr, uTo, wX, wY, wX2, wY2, jX, jY, lX, lY, pX, pY, par, pPt, rnk]
  have nL' : nL (dJu d s a b) = nL d := by simp [dJu, dN_eN, dL_eL, dI_eI, dL_eN, dI_eN, dN_eL, dI_eL, dN_eI, dL_eI, nS, nW, nJ, nL, nP, nO, nU, bas, wSh, wDr, jSh, lSh, lNm, pSh, pOp, oSh, oLb, oNm, uSh, uNm, uFr, uTo, wX, wY, wX2, wY2, jX, jY, lX, lY, pX, pY, par, pPt, rnk]
  have nP' : nP (dJu d s a b) = nP d := by simp [dJu, dN_eN, dL_eL, dI_eI, dL_eN, dI_eN, dN_eL, dI_eL, dN_eI, dL_eI, nS, nW, nJ, nL, nP, nO, nU, bas, wSh, wDr, jSh, lSh, lNm, pSh, pOp, oSh, oLb, oNm, uSh, uNm, uFr, uTo, wX, wY, wX2, wY2, jX, jY, lX, lY, pX, pY, par, pPt, rnk]
  have lN' : ∀ l, lNm (dJu d s a b) l = lNm d l := fun l => by simp [dJu, dN_eN, dL_eL, dI_eI, dL_eN, dI_eN, dN_eL, dI_eL, dN_eI, dL_eI, nS, nW, nJ, nL, nP, nO, nU, bas, wSh, wDr, jSh, lSh, lNm, pSh, pOp, oSh, oLb, oNm, uSh, uNm, uFr, uTo, wX, wY, wX2, wY2, jX, jY, lX, lY, pX, pY, par, pPt, rnk]
  have jS' : jSh (dJu d s a b) (nJ d) = s ∧ jX (dJu d s a b) (nJ d) = a ∧ jY (dJu d s a b) (nJ d) = b := by simp [dJu, dN_eN, dL_eL, dI_eI, dL_eN, dI_eN, dN_eL, dI_eL, dN_eI, dL_eI, nS, nW, nJ, nL, nP, nO, nU, bas, wSh, wDr, jSh, lSh, lNm, pSh, pOp, oSh, oLb, oNm, uSh, uNm, uFr, uTo, wX, wY, wX2, wY2, jX, jY, lX, lY, pX, pY, par, pPt, rnk]
  have X3 : XX Z vx A3 B3 h3 (dJu d s a b) (TT d) (SC d) := CB0.1.ad nS' v3 b3 m3 C3
  have R3 : Rst Z vx A3 B3 h3 d (nL (dJu d s a b)) pm := Rst.ad CB0 hp nL' v3 b3 m3 V3 Q3
  have hp' : PM (dJu d s a b) pm := by
    unfold PM; rw [nL']; simp only [lN']; exact hp
  have aq : A3 5 (nJ d) = q := a3.1
  have zb := zb_ju s a b z
  have gr := gr_ju (d := d) s a b
  obtain ⟨w1, w2⟩ := junc_TT E hd nW' nJ' nL' nP'
  have B5 : (B3 (A3 5 (nJ d))).1 ≤ 10 := by rw [C3.tag (r := 5) (by omega) (by omega) (by show nJ d < nJ (dJu d s a b); omega)]; show 5 ≤ 10; decide
  have pl : plc h3 (A3 5 (nJ d)) s a b := by
    have := C3.pJ (k := nJ d) (by omega)
    rw [jS'.1, jS'.2.1, jS'.2.2] at this; exact this
  have pjeq : ∀ x y, (∃ i, i < nW (dJu d s a b) ∧ Pjun (dJu d s a b) s a b i x y) ↔ Pju (dJu d s a b) (nJ d) x y := by
    intro x y; unfold Pju; rw [jS'.1, jS'.2.1, jS'.2.2]
  generalize dJu d s a b = d' at *
  rw [← aq]
  refine ⟨C3.x, sp_joinJunction hd' X3.xt (by omega) pl B5 fun h4 X4 s4 => ⟨X4.1.x, ?_⟩⟩
  have X4' : XT Z vx A3 B3 h4 d' (TT d') := by
    refine X4.mo (fun x y p => w1 x y ?_) (fun x y p => (w2 x y p).mo fun u v q => EG.of ?_)
    · rcases p with p | p
      · exact Or.inl p
      · exact Or.inr ((pjeq x y).mp p)
    · rcases q with p | p
      · exact Or.inl p
      · exact Or.inr ((pjeq u v).mpr p)
  refine sp_over hd hd' zb E SBx Nw (by omega) gr hp' (X3.of X4' s4) (R3.s2 C3 (sm12_2 s4)) fun h8 K8 m8 => k1 _ _ h8 A3 B3 eo' (Or.inr rfl) K8 ?_
  exact (m3.sub (by omega) (by omega)).tr ((mv.s2 (sm12_2 s4) (by omega)).tr m8)
theorem sp_hasPinOf {post : Int32 → HS → Prop} {pt : Int32} {s : Nat} {a b : Int64} (hd : WF d) (C : CD Z vx A B h d) (hs : s < 2 ^ 31) (k1 : (∃ k, k < nP d ∧ pSh d k = s ∧ pPt d k = pt ∧ pX d k = a ∧ pY d k = b) → post 1 h) (k0 : (¬ ∃ k, k < nP d ∧ pSh d k = s ∧ pPt d k = pt ∧ pX d k = a ∧ pY d k = b) → post 0 h) : wp_NJ_hasPinOf Z post h vx pt (nI s) a b := by
  have hS := hd.1.1
  have hP := hd.1.2.2.2.2.1
  refine lp_inv (fun q => ∃ i, i ≤ nP d ∧ q = (pt, nI s, a, b, nI i, h) ∧ ∀ j, j < i → ¬ (pSh d j = s ∧ pPt d j = pt ∧ pX d j = a ∧ pY d j = b)) (fun q => nP d - q.2.2.2.2.1.toNatClampNeg) ?_ _ ⟨0, by omega, rfl, fun j hj => absurd hj (Nat.not_lt_zero _)⟩
  rintro q K ⟨i, hi, rfl, o⟩ hK
  have next : i < nP d → ¬ (pSh d i = s ∧ pPt d i = pt ∧ pX d i = a ∧ pY d i = b) → wj_NJ_hasPinOf_52 Z post K vx pt (nI s) a b (nI i) h := by
    intro z w
    rintro y rfl
    refine hK _ ⟨i + 1, by omega, by rw [nI_1], fun j hj => ?_⟩ ?_
    · by_cases y : j = i
      · subst y; exact w
      · exact o j (by omega)
    · dsimp only
      rw [nI_1, jr_cl (by omega), jr_cl (by omega)]; omega
  unfold wb_NJ_hasPinOf_3
  dsimp only
  refine ⟨C.x, A 1 5, C.p (by omega), C.lT (by omega), sp_size C.pi (pk_le (nP d) i (fun z => k0 fun ⟨j, j1, j2⟩ => o j (by omega) j2) (fun z => ⟨C.x, A 1 5, C.p (by omega), C.lT (by omega), sp_get C.pi z ?_⟩))⟩
  obtain ⟨p1, p2, p3, p4, p5, p6⟩ := C.P z
  have ps := (hd.2.2.2.2.2.1 i z).1
  refine ⟨cst p1, A 7 i, rfl, p1, ?_⟩
  rw [p5]
  refine ⟨fun y => next z fun w => y w.2.1, fun y => ⟨A 7 i, rfl, p1, sp_isAt p1 (fun w => ⟨fun x => absurd x (by decide), fun _ => k1 ⟨i, z, ?_⟩⟩) (fun w => ⟨fun _ => next z fun x => w ?_, fun x => absurd rfl x⟩)⟩⟩
  · rw [p2, p3, p4, nI_eq (by omega) hs] at w
    exact ⟨w.1, y, w.2.1, w.2.2⟩
  · rw [p2, p3, p4, x.1]; exact ⟨rfl, x.2.2.1, x.2.2.2⟩
theorem k_pin {post : Int32 → HS → Prop} {exc : Nat → HS → Prop} {x1 pt : Int32} {a b : Int64} (K : KS Z vx A B h d ch) (k0 : ∀ n, o_pin (d, ch) x1 a b pt = (n, 0, (d, ch)) → n = 1 ∨ n = 2 ∨ n = 3 → exc n h) (k1 : ∀ r s h' A' B', o_pin (d, ch) x1 a b pt = (0, r, s) → KS Z vx A' B' h' s.1 s.2 → mv 20 100 A A' B B' h h' → post r h') : wp_NJ_pin Z post exc h vx x1 a b pt := by
  have K0 := K
  obtain ⟨hd, z, ⟨pm, hp, CB0⟩, I, F1, F2⟩ := K
  have hS := hd.1.1
  have hP := hd.1.2.2.2.2.1
  have C := CB0.1.1
  refine ⟨C.x, sp_needDrawn hd C (fun ⟨s, hs, es⟩ => ?_) (fun n => k0 1 (o_ref1 n) (Or.inl rfl)) (fun ⟨s, s1, s2, s3⟩ => k0 2 (o_ref2 hS s1 s2 s3) (Or.inr (Or.inl rfl)))⟩
  refine sp_needPlace (fun p1 => ?_) fun n => k0 3 (o_ref3 hs es n) (Or.inr (Or.inr rfl))
  have eo : o_pin (d, ch) x1 a b pt = cif (nP d = 60 ∨ ∃ k, k < nP d ∧ pSh d k = tn x1 ∧ pPt d k = pt ∧ pX d k = a ∧ pY d k = b) (0, -1, (d, ch)) (0, nI (nP d), nx (d, ch) (dPi d (tn x1) a b pt)) := o_ref0 hs es p1
  have sl := hs.1
  have et : tn x1 = s := by rw [es]; exact tn_nI (by omega)
  rw [et] at eo
  refine ⟨C.x, A 1 5, C.p (by omega), C.lT (by omega), sp_size C.pi (pk_le 60 (nP d) (fun w => ?_) (fun w => ⟨C.x, ?_⟩))⟩
  · exact k1 _ _ h A B (by rw [eo, cif_t (Or.inl (by omega))]) K0 mv.rf
  rw [es]
  refine sp_hasPinOf hd C (by omega) (fun ex => ⟨fun y => absurd y (by decide), fun _ => k1 _ _ h A B (by rw [eo, cif_t (Or.inr ex)]) K0 mv.rf⟩) (fun no => ⟨fun _ => ?_, fun y => absurd rfl y⟩)
  have eo' : o_pin (d, ch) x1 a b pt = (0, nI (nP d), nx (d, ch) (dPi d s a b pt)) := by
    rw [eo, cif_f]
    rintro (y | y)
    · omega
    · exact no y
  intro q hq
  intro h1 e1
  have p0 : pOp d (nP d) = 0 := z.2 _ (Nat.le_refl _)
  have t1 : gT h1 q = 22 := by rw [e1, gT_nH2, if_pos rfl]
  have z1 : gI h1 605 q = 0 := by rw [e1, gI_nH2, if_pos rfl]
  have s1 : ∀ a, gT h a ≠ 0 → ce h h1 a := fun a ha => by rw [e1]; exact ce_nH fun w => ha (by rw [w]; exact hq)
  clear e1
  refine sp_Spot_init t1 fun h2 i1 i2 i3 i4 i5 i6 i7 s2 => ?_
  have s12 : ∀ a, gT h a ≠ 0 → ce h h2 a := fun a ha => ce_tr (s1 a ha) (s2 a fun w => ha (by rw [w]; exact hq))
  have cx := s12 vx (by rw [C.x]; decide)
  have cl := s12 (A 1 5) (by rw [C.lT (by omega)]; decide)
  refine ⟨by rw [cx.T]; exact C.x, A 1 5, by rw [cx.R]; exact C.p (by omega), by rw [cl.T]; exact C.lT (by omega), ?_⟩
  have ob : obP h2 (dPi d s a b pt) q (nP d) := by
    refine ⟨i1, by rw [i2]; simp [dPi, dN_eN, dL_eL, dI_eI, dL_eN, dI_eN, dN_eL, dI_eL, dN_eI, dL_eI, nS, nW, nJ, nL, nP, nO, nU, bas, wSh, wDr, jSh, lSh, lNm, pSh, pOp, oSh, oLb, oNm, uSh, uNm, uFr, uTo, wX, wY, wX2, wY2, jX, jY, lX, lY, pX, pY, par, pPt, rnk], by rw [i3]; simp [dPi, dN_eN, dL_eL, dI_eI, dL_eN, dI_eN, dN_eL, dI_eL, dN_eI, dL_eI, nS, nW, nJ, nL, nP, nO, nU, bas, wSh, wDr, jSh, lSh, lNm, pSh, pOp, oSh, oLb, oNm, uSh, uNm, uFr, uTo, wX, wY, wX2, wY2, jX, jY, lX, lY, pX, pY, par, pPt, rnk], by rw [i4]; simp [dPi, dN_eN, dL_eL, dI_eI, dL_eN, dI_eN, dN_eL, dI_eL, dN_eI, dL_eI, nS, nW, nJ, nL, nP, nO, nU, bas, wSh, wDr, jSh, lSh, lNm, pSh, pOp, oSh, oLb, oNm, uSh, uNm, uFr, uTo, wX, wY, wX2, wY2, jX, jY, lX, lY, pX, pY, par, pPt, rnk], by rw [i5]; simp [dPi, dN_eN, dL_eL, dI_eI, dL_eN, dI_eN, dN_eL, dI_eL, dN_eI, dL_eI, nS, nW, nJ, nL, nP, nO, nU, bas, wSh, wDr, jSh, lSh, lNm, pSh, pOp, oSh, oLb, oNm, uSh, uNm, uFr, uTo, wX, wY, wX2, wY2, jX, jY, lX, lY, pX, pY, par, pPt, rnk], by rw [i6], ?_⟩
    rw [i7, z1, show pOp (dPi d s a b pt) (nP d) = pOp d (nP d) from by simp [dPi, dN_eN, dL_eL, dI_eI, dL_eN, dI_eN, dN_eL, dI_eL, dN_eI, dL_eI, nS, nW, nJ, nL, nP, nO, nU, bas, wSh, wDr, jSh, lSh, lNm, pSh, pOp, oSh, oLb, oNm, uSh, uNm, uFr, uTo, wX, wY, wX2, wY2, jX, jY, lX, lY, pX, pY, par, pPt, rnk], p0]; rfl
  obtain ⟨ct1, ct2, ct3⟩ := ct_pi (d := d) s a b pt
  refine sp_addObj (r := 7) C CB0.2.1 (by omega) (by omega) rfl (by show nP d < 100; omega) hq (fun a ha _ => s12 a ha) ob (fun i hi => ob_pi hd s a b pt (by omega) (by omega) hi (obj_frame (s12 _ (lsT_ne (C.lvA (by omega) (by omega) hi)).1) ((C.2.1 7 (by omega) (by omega)).2 i hi).1)) (fun r' h3 h9 hr => ⟨ct2 r' h3 h9 hr, fun i g a hi o => ob_pi hd s _ _ _ h3 h9 hi o⟩) ct1 ct3 fun h3 A3 B3 C3 V3 m3 Q3 v3 b3 a3 cx3 => ?_
  have hd' : WF (dPi d s a b pt) := WF_pi hd hs w p0
  obtain ⟨E, SBx, Nw⟩ := ext_pi (d := d) s a b pt w
  have nS' : nS (dPi d s a b pt) = nS d := by simp [dPi, dN_eN, dL_eL, dI_eI, dL_eN, dI_eN, dN_eL, dI_eL, dN_eI, dL_eI, nS, nW, nJ, nL, nP, nO, nU, bas, wSh, wDr, jSh, lSh, lNm, pSh, pOp, oSh, oLb, oNm, uSh, uNm, uFr, uTo, wX, wY, wX2, wY2, jX, jY, lX, lY, pX, pY, par, pPt, rnk]
  have nW' : nW (dPi d s a b pt) = nW d := by simp [dPi, dN_eN, dL_eL, dI_eI, dL_eN, dI_eN, dN_eL, dI_eL, dN_eI, dL_eI, nS, nW, nJ, nL, nP, nO, nU, bas, wSh, wDr, jSh, lSh, lNm, pSh, pOp, oSh, oLb, oNm, uSh, uNm, uFr, uTo, wX, wY, wX2, wY2, jX, jY, lX, lY, pX, pY, par, pPt, rnk]
  have nJ' : nJ (dPi d s a b pt) = nJ d := by simp [dPi, dN_eN, dL_eL, dI_eI, dL_eN, dI_eN, dN_eL, dI_eL, dN_eI, dL_eI, nS, nW, nJ, nL, nP, nO, nU, bas, wSh, wDr, jSh, lSh, lNm, pSh, pOp, oSh, oLb, oNm, uSh, uNm, uFr, uTo, wX, wY, wX2, wY2, jX, jY, lX, lY, pX, pY, par, pPt, rnk]
  have nL' : nL (dPi d s a b pt) = nL d := by simp [dPi, dN_eN, dL_eL, dI_eI, dL_eN, dI_eN, dN_eL, dI_eL, dN_eI, dL_eI, nS, nW, nJ, nL, nP, nO, nU, bas, wSh, wDr, jSh, lSh, lNm, pSh, pOp, oSh, oLb, oNm, uSh, uNm, uFr, uTo, wX, wY, wX2, wY2, jX, jY, lX, lY, pX, pY, par, pPt, rnk]
  have nP' : nP (dPi d s a b pt) = nP d + 1 := by simp [dPi, dN_eN, dL_eL, dI_eI, dL_eN, dI_eN, dN_eL, dI_eL, dN_eI, dL_eI, nS, nW, nJ, nL, nP, nO, nU, bas, wSh, wDr, jSh, lSh, lNm, pSh, pOp, oSh, oLb, oNm, uSh, uNm, uFr, uTo, wX, wY, wX2, wY2, jX, jY, lX, lY, pX, pY, par, pPt, rnk]
  have lN' : ∀ l, lNm (dPi d s a b pt) l = lNm d l := fun l => by simp [dPi, dN_eN, dL_eL, dI_eI, dL_eN, dI_eN, dN_eL, dI_eL, dN_eI, dL_eI, nS, nW, nJ, nL, nP, nO, nU, bas, wSh, wDr, jSh, lSh, lNm, pSh, pOp, oSh, oLb, oNm, uSh, uNm, uFr, uTo, wX, wY, wX2, wY2, jX, jY, lX, lY, pX, pY, par, pPt, rnk]
  have X3 : XX Z vx A3 B3 h3 (dPi d s a b pt) (TT d) (SC d) := CB0.1.ad nS' v3 b3 m3 C3
  have R3 : Rst Z vx A3 B3 h3 d (nL (dPi d s a b pt)) pm := Rst.ad CB0 hp nL' v3 b3 m3 V3 Q3
  have hp' : PM (dPi d s a b pt) pm := by
    unfold PM; rw [nL']; simp only [lN']; exact hp
  have aq : sAd A3 (nP d) = q := by unfold sAd; rw [if_pos (by omega)]; exact a3.1
  have zb := zb_pi s a b pt z
  have gr := gr_pi (d := d) s a b pt
  have isn : isp (dPi d s a b pt) (nP d) := Or.inl (by omega)
  obtain ⟨w1, w2⟩ := spot_TT E hd nW' nJ' isn fun c hc nc => by
    rcases hc with y | y
    · exact Or.inl (by omega)
    · exact Or.inr (by omega)
  generalize dPi d s a b pt = d' at *
  rw [← aq]
  refine ⟨C3.x, sp_joinSpot hd' X3.xt isn fun h4 X4 s4 => ⟨X4.1.x, ?_⟩⟩
  have X4' : XT Z vx A3 B3 h4 d' (TT d') := X4.mo (fun x y p => w1 x y p) (fun x y p => w2 x y p)
  refine sp_over hd hd' zb E SBx Nw (by omega) gr hp' (X3.of X4' s4) (R3.s2 C3 (sm12_2 s4)) fun h8 K8 m8 => k1 _ _ h8 A3 B3 eo' K8 ?_
  exact (m3.sub (by omega) (by omega)).tr ((mv.s2 (sm12_2 s4) (by omega)).tr m8)
theorem k_label {post : Int32 → HS → Prop} {exc : Nat → HS → Prop} {x1 x6 : Int32} {a b : Int64} (K : KS Z vx A B h d ch) (k0 : ∀ n, o_label (d, ch) x1 a b x6 = (n, 0, (d, ch)) → n = 1 ∨ n = 2 ∨ n = 3 → exc n h) (k1 : ∀ r s h' A' B', o_label (d, ch) x1 a b x6 = (0, r, s) → KS Z vx A' B' h' s.1 s.2 → mv 20 100 A A' B B' h h' → post r h') : wp_NJ_label Z post exc h vx x1 a b x6 := by
  have K0 := K
  obtain ⟨hd, z, ⟨pm, hp, CB0⟩, I, F1, F2⟩ := K
  have hS := hd.1.1
  have hL := hd.1.2.2.2.1
  have C := CB0.1.1
  refine ⟨C.x, sp_needDrawn hd C (fun ⟨s, hs, es⟩ => ?_) (fun n => k0 1 (o_ref1 n) (Or.inl rfl)) (fun ⟨s, s1, s2, s3⟩ => k0 2 (o_ref2 hS s1 s2 s3) (Or.inr (Or.inl rfl)))⟩
  have e3 : ¬ (plA a b ∧ isN x6) → exc 3 h := fun n => k0 3 (o_ref3 hs es n) (Or.inr (Or.inr rfl))
  refine sp_needPlace (fun p1 => sp_needName (fun p2 => ?_) fun n => e3 fun w => n w.2) fun n => e3 fun w => n w.1
  have eo : o_label (d, ch) x1 a b x6 = cif (nL d = 60) (0, -1, (d, ch)) (0, nI (nL d), nx (d, ch) (dLa d (tn x1) a b (tn x6))) := o_ref0 hs es ⟨p1, p2⟩
  obtain ⟨nm, n1, n2⟩ := p2
  have sl := hs.1
  have et : tn x1 = s := by rw [es]; exact tn_nI (by omega)
  have en : tn x6 = nm := by rw [n2]; exact tn_nI (by omega)
  rw [et, en] at eo
  refine ⟨C.x, A 1 3, C.p (by omega), C.lT (by omega), sp_size C.la (pk_lt (nL d) 60 (fun w => ?_) (fun w => ?_))⟩
  rotate_left
  · exact k1 _ _ h A B (by rw [eo, cif_t (by omega)]) K0 mv.rf
  have eo' : o_label (d, ch) x1 a b x6 = (0, nI (nL d), nx (d, ch) (dLa d s a b nm)) := by rw [eo, cif_f (by omega)]
  rw [es, n2, show (60 : Int32) = nI 60 from rfl, nI_add]
  intro q hq
  intro h1 e1
  have t1 : gT h1 q = 22 := by rw [e1, gT_nH2, if_pos rfl]
  have s1 : ∀ a, gT h a ≠ 0 → ce h h1 a := fun a ha => by rw [e1]; exact ce_nH fun w => ha (by rw [w]; exact hq)
  clear e1
  refine sp_Spot_init t1 fun h2 i1 i2 i3 i4 i5 i6 i7 s2 => ?_
  have s12 : ∀ a, gT h a ≠ 0 → ce h h2 a := fun a ha => ce_tr (s1 a ha) (s2 a fun w => ha (by rw [w]; exact hq))
  have cx := s12 vx (by rw [C.x]; decide)
  have cl := s12 (A 1 3) (by rw [C.lT (by omega)]; decide)
  refine ⟨by rw [cx.T]; exact C.x, A 1 3, by rw [cx.R]; exact C.p (by omega), by rw [cl.T]; exact C.lT (by omega), ?_⟩
  have ob : obL h2 (dLa d s a b nm) q (nL d) := by
    refine ⟨i1, by rw [i2]; simp [dLa, dN_eN, dL_eL, dI_eI, dL_eN, dI_eN, dN_eL, dI_eL, dN_eI, dL_eI, nS, nW, nJ, nL, nP, nO, nU, bas, wSh, wDr, jSh, lSh, lNm, pSh, pOp, oSh, oLb, oNm, uSh, uNm, uFr, uTo, wX, wY, wX2, wY2, jX, jY, lX, lY, pX, pY, par, pPt, rnk], by rw [i3]; simp [dLa, dN_eN, dL_eL, dI_eI, dL_eN, dI_eN, dN_eL, dI_eL, dN_eI, dL_eI, nS, nW, nJ, nL, nP, nO, nU, bas, wSh, wDr, jSh, lSh, lNm, pSh, pOp, oSh, oLb, oNm, uSh, uNm, uFr, uTo, wX, wY, wX2, wY2, jX, jY, lX, lY, pX, pY, par, pPt, rnk], by rw [i4]; simp [dLa, dN_eN, dL_eL, dI_eI, dL_eN, dI_eN, dN_eL, dI_eL, dN_eI, dL_eI, nS, nW, nJ, nL, nP, nO, nU, bas, wSh, wDr, jSh, lSh, lNm, pSh, pOp, oSh, oLb, oNm, uSh, uNm, uFr, uTo, wX, wY, wX2, wY2, jX, jY, lX, lY, pX, pY, par, pPt, rnk], by rw [i5]; simp [dLa, dN_eN, dL_eL, dI_eI, dL_eN, dI_eN, dN_eL, dI_eL, dN_eI, dL_eI, nS, nW, nJ, nL, nP, nO, nU, bas, wSh, wDr, jSh, lSh, lNm, pSh, pOp, oSh, oLb, oNm, uSh, uNm, uFr, uTo, wX, wY, wX2, wY2, jX, jY, lX, lY, pX, pY, par, pPt, rnk], by rw [i6]⟩
  obtain ⟨ct1, ct2, ct3⟩ := ct_la (d := d) s a b nm
  refine sp_addObj (r := 6) C CB0.2.1 (by omega) (by omega) rfl (by show nL d < 100; omega) hq (fun a ha _ => s12 a ha) ob (fun i hi => ob_la hd s a b nm (by omega) (by omega) hi (obj_frame (s12 _ (lsT_ne (C.lvA (by omega) (by omega) hi)).1) ((C.2.1 6 (by omega) (by omega)).2 i hi).1)) (fun r' h3 h9 hr => ⟨ct2 r' h3 h9 hr, fun i g a hi o => ob_la hd s _ _ _ h3 h9 hi o⟩) ct1 ct3 fun h3 A3 B3 C3 V3 m3 Q3 v3 b3 a3 cx3 => ?_
  have hd' : WF (dLa d s a b nm) := WF_la hd hs n1 w
  obtain ⟨E, SBx, Nw⟩ := ext_la (d := d) s a b nm w
  have nS' : nS (dLa d s a b nm) = nS d := by simp [dLa, dN_eN, dL_eL, dI_eI, dL_eN, dI_eN, dN_eL, dI_eL, dN_eI, dL_eI, nS, nW, nJ, nL, nP, nO, nU, bas, wSh, wDr, jSh, lSh, lNm, pSh, pOp, oSh, oLb, oNm, uSh, uNm, uFr, uTo, wX, wY, wX2, wY2, jX, jY, lX, lY, pX, pY, par, pPt, rnk]
  have nW' : nW (dLa d s a b nm) = nW d := by simp [dLa, dN_eN, dL_eL, dI_eI, dL_eN, dI_eN, dN_eL, dI_eL, dN_eI, dL_eI, nS, nW, nJ, nL, nP, nO, nU, bas, wSh, wDr, jSh, lSh, lNm, pSh, pOp, oSh, oLb, oNm, uSh, uNm, uFr, uTo, wX, wY, wX2, wY2, jX, jY, lX, lY, pX, pY, par, pPt, rnk]
  have nJ' : nJ (dLa d s a b nm) = nJ d := by simp [dLa, dN_eN, dL_eL, dI_eI, dL_eN, dI_eN, dN_eL, dI_eL, dN_eI, dL_eI, nS, nW, nJ, nL, nP, nO, nU, bas, wSh, wDr, jSh, lSh, lNm, pSh, pOp, oSh, oLb, oNm, uSh, uNm, uFr, uTo, wX, wY, wX2, wY2, jX, jY, lX, lY, pX, pY, par, pPt, rnk]
  have nL' : nL (dLa d s a b nm) = nL d + 1 := by simp [dLa, dN_eN, dL_eL, dI_eI, dL_eN, dI_eN, dN_eL, dI_eL, dN_eI, dL_eI, nS, nW, nJ, nL, nP, nO, nU, bas, wSh, wDr, jSh, lSh, lNm, pSh, pOp, oSh, oLb, oNm, uSh, uNm, uFr, uTo, wX, wY, wX2, wY2, jX, jY, lX, lY, pX, pY, par, pPt, rnk]
  have nP' : nP (dLa d s a b nm) = nP d := by simp [dLa, dN_eN, dL_eL, dI_eI, dL_eN, dI_eN, dN_eL, dI_eL, dN_eI, dL_eI, nS, nW, nJ, nL, nP, nO, nU, bas, wSh, wDr, jSh, lSh, lNm, pSh, pOp, oSh, oLb, oNm, uSh, uNm, uFr, uTo, wX, wY, wX2, wY2, jX, jY, lX, lY, pX, pY, par, pPt, rnk]
  have lN' : ∀ l, l < nL d → lNm (dLa d s a b nm) l = lNm d l := fun l hl => by
    have ne : l ≠ dN d 0 3 := Nat.ne_of_lt hl
    simp [dLa, dN_eN, dL_eL, dI_eI, dL_eN, dI_eN, dN_eL, dI_eL, dN_eI, dL_eI, nS, nW, nJ, nL, nP, nO, nU, bas, wSh, wDr, jSh, lSh, lNm, pSh, pOp, oSh, oLb, oNm, uSh, uNm, uFr, uTo, wX, wY, wX2, wY2, jX, jY, lX, lY, pX, pY, par, pPt, rnk, ne]
  have X3 : XX Z vx A3 B3 h3 (dLa d s a b nm) (TT d) (SC d) := CB0.1.ad nS' v3 b3 m3 C3
  have R3 : Rst Z vx A3 B3 h3 d (nL d) pm := Rst.ad CB0 hp rfl v3 b3 m3 V3 Q3
  have aq : A3 6 (nL d) = q := a3.1
  have zb := zb_la s a b nm z
  have gr := gr_la (d := d) s a b nm
  have isn : isp (dLa d s a b nm) (60 + nL d) := Or.inr (by omega)
  obtain ⟨w1, w2⟩ := spot_TT E hd nW' nJ' isn fun c hc nc => by
    rcases hc with y | y
    · exact Or.inl (by omega)
    · exact Or.inr (by omega)
  generalize dLa d s a b nm = d' at *
  rw [← aq]
  refine ⟨C3.x, sp_putByName hd' C3 V3 nL' R3.2.2.2.1 hp.1 hp.2.1 (fun i j hij hj => by rw [lN' _ (hp.1 i (by omega)), lN' _ (hp.1 j hj)]; exact hp.2.2 i j hij hj) fun h4 A4 B4 pm4 C4 V4 m4 Q4 hp4 v4 b4 => ⟨C4.x, ?_⟩⟩
  have X4 : XX Z vx A4 B4 h4 d' (TT d) (SC d) := X3.ad rfl v4 b4 (m4.sub (by omega) (by omega)) C4
  have R4 : Rst Z vx A4 B4 h4 d (nL d') pm4 := by
    obtain ⟨V0, T, N, Q0, M⟩ := R3
    obtain ⟨T', t1, t2⟩ := T.go v4 b4 (m4.sub (by omega) (by omega))
    exact ⟨V4, T', N.go t1 t2, by rw [nL']; exact Q4, (M.go v4 (m4.sub (by omega) (by omega))).1⟩
  have aq4 : sAd A4 (60 + nL d) = A3 6 (nL d) := by
    unfold sAd; rw [if_neg (by omega), show 60 + nL d - 60 = nL d from by omega]; exact m4.2 6 _ (by omega) (by omega)
  rw [← aq4]
  refine sp_joinSpot hd' X4.xt isn fun h5 X5 s5 => ⟨X5.1.x, ?_⟩
  have X5' : XT Z vx A4 B4 h5 d' (TT d') := X5.mo (fun x y p => w1 x y p) (fun x y p => w2 x y p)
  refine sp_over hd hd' zb E SBx Nw (by omega) gr hp4 (X4.of X5' s5) (R4.s2 C4 (sm12_2 s5)) fun h8 K8 m8 => k1 _ _ h8 A4 B4 eo' K8 ?_
  exact (m3.sub (by omega) (by omega)).tr ((m4.sub (by omega) (by omega)).tr ((mv.s2 (sm12_2 s5) (by omega)).tr m8))
end OPS2
