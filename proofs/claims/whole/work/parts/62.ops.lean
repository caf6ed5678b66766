section OPS
variable {Z : Nat → Nat} {vx : Nat} {A : Nat → Nat → Nat} {B : Nat → Nat × Nat} {h : HS} {d : DS} {ch : Nat → Prop}
theorem sp_Wire_init {post : HS → Prop} {q : Nat} {x1 x2 : Int32} {a b c e : Int64} (t : gT h q = 23) (kk : ∀ h', gT h' q = 23 → gI h' 700 q = x1 → gI h' 701 q = x2 → gJ h' 702 q = a → gJ h' 703 q = b → gJ h' 704 q = c → gJ h' 705 q = e → gI h' 706 q = gI h 706 q → sm (fun a => a ≠ q) h h' → post h') : wp_Wire_init Z post h q x1 x2 a b c e := by
  refine ⟨t, ?_⟩
  intro h2 e2
  refine ⟨by rw [e2, gT_sI]; exact t, ?_⟩
  intro h4 e4
  refine ⟨by rw [e4, e2, gT_sI, gT_sI]; exact t, ?_⟩
  intro h6 e6
  refine ⟨by rw [e6, e4, e2, gT_sJ, gT_sI, gT_sI]; exact t, ?_⟩
  intro h8 e8
  refine ⟨by rw [e8, e6, e4, e2, gT_sJ, gT_sJ, gT_sI, gT_sI]; exact t, ?_⟩
  intro h10 e10
  refine ⟨by rw [e10, e8, e6, e4, e2, gT_sJ, gT_sJ, gT_sJ, gT_sI, gT_sI]; exact t, ?_⟩
  intro h12 e12
  refine kk h12 ?_ ?_ ?_ ?_ ?_ ?_ ?_ ?_ ?_
  · rw [e12, e10, e8, e6, e4, e2]; exact t
  · simp [e12, e10, e8, e6, e4, e2, gI_sJ, gI_sI]
  · simp [e12, e10, e8, e6, e4, e2, gI_sJ, gI_sI]
  · simp [e12, e10, e8, e6, e4, e2, gJ_sJ, gJ_sI]
  · simp [e12, e10, e8, e6, e4, e2, gJ_sJ, gJ_sI]
  · simp [e12, e10, e8, e6, e4, e2, gJ_sJ, gJ_sI]
  · simp [e12, e10, e8, e6, e4, e2, gJ_sJ, gJ_sI]
  · simp [e12, e10, e8, e6, e4, e2, gI_sJ, gI_sI]
  · intro u hu
    rw [e12, e10, e8, e6, e4, e2]
    exact ce_tr (ce_sI hu) (ce_tr (ce_sI hu) (ce_tr (ce_sJ hu) (ce_tr (ce_sJ hu) (ce_tr (ce_sJ hu) (ce_sJ hu)))))
theorem sp_Spot_init {post : HS → Prop} {q : Nat} {x1 x6 x7 : Int32} {a b : Int64} (t : gT h q = 22) (kk : ∀ h', gT h' q = 22 → gI h' 600 q = x1 → gJ h' 601 q = a → gJ h' 602 q = b → gI h' 603 q = x6 → gI h' 604 q = x7 → gI h' 605 q = gI h 605 q → sm (fun a => a ≠ q) h h' → post h') : wp_Spot_init Z post h q x1 a b x6 x7 := by
  refine ⟨t, ?_⟩
  intro h2 e2
  refine ⟨by rw [e2]; exact t, ?_⟩
  intro h4 e4
  refine ⟨by rw [e4, e2]; exact t, ?_⟩
  intro h6 e6
  refine ⟨by rw [e6, e4, e2]; exact t, ?_⟩
  intro h8 e8
  refine ⟨by rw [e8, e6, e4, e2]; exact t, ?_⟩
  intro h10 e10
  refine kk h10 ?_ ?_ ?_ ?_ ?_ ?_ ?_ ?_
  · rw [e10, e8, e6, e4, e2]; exact t
  · simp [e10, e8, e6, e4, e2, gI_sJ, gI_sI]
  · simp [e10, e8, e6, e4, e2, gJ_sJ, gJ_sI]
  · simp [e10, e8, e6, e4, e2, gJ_sJ, gJ_sI]
  · simp [e10, e8, e6, e4, e2, gI_sJ, gI_sI]
  · simp [e10, e8, e6, e4, e2, gI_sJ, gI_sI]
  · simp [e10, e8, e6, e4, e2, gI_sJ, gI_sI]
  · intro u hu
    rw [e10, e8, e6, e4, e2]
    exact ce_tr (ce_sI hu) (ce_tr (ce_sJ hu) (ce_tr (ce_sJ hu) (ce_tr (ce_sI hu) (ce_sI hu))))
theorem k_wire {post : Int32 → HS → Prop} {exc : Nat → HS → Prop} {x1 : Int32} {a b c e : Int64} (K : KS Z vx A B h d ch) (k0 : ∀ n, o_wire (d, ch) x1 a b c e = (n, 0, (d, ch)) → n = 1 ∨ n = 2 ∨ n = 3 → exc n h) (k1 : ∀ r s h' A' B', o_wire (d, ch) x1 a b c e = (0, r, s) → KS Z vx A' B' h' s.1 s.2 → mv 20 100 A A' B B' h h' → post r h') : wp_NJ_wire Z post exc h vx x1 a b c e := by
  have K0 := K
  obtain ⟨hd, z, ⟨pm, hp, CB0⟩, I, F1, F2⟩ := K
  have hS := hd.1.1
  have hW := hd.1.2.1
  have C := CB0.1.1
  refine ⟨C.x, sp_needDrawn hd C (fun ⟨s, hs, es⟩ => ?_) (fun n => k0 1 (o_ref1 n) (Or.inl rfl)) (fun ⟨s, s1, s2, s3⟩ => k0 2 (o_ref2 hS s1 s2 s3) (Or.inr (Or.inl rfl)))⟩
  have e3 : ¬ (plA a b ∧ plA c e ∧ ¬ (a = c ∧ b = e)) → exc 3 h := fun n => k0 3 (o_ref3 hs es n) (Or.inr (Or.inr rfl))
  refine sp_needPlace (fun p1 => sp_needPlace (fun p2 => ?_) fun n => e3 fun w => n w.2.1) fun n => e3 fun w => n w.1
  have main : ¬ (a = c ∧ b = e) → wj_NJ_wire_43 Z post exc vx x1 a b c e h := by
    intro ne
    have eo : o_wire (d, ch) x1 a b c e = cif (nW d = 100) (0, -1, (d, ch)) (0, nI (nW d), nx (d, ch) (dWi d (tn x1) a b c e)) := o_ref0 hs es ⟨p1, p2, ne⟩
    have sl := hs.1
    have et : tn x1 = s := by rw [es]; exact tn_nI (by omega)
    rw [et] at eo
    refine ⟨C.x, A 1 1, C.p (by omega), C.lT (by omega), sp_size C.wi (pk_lt (nW d) 100 (fun w => ?_) (fun w => ?_))⟩
    rotate_left
    · exact k1 _ _ h A B (by rw [eo, cif_t (by omega)]) K0 mv.rf
    intro q hq
    intro h1 e1
    have wd0 : wDr d (nW d) = 0 := z.1 _ (Nat.le_refl _)
    have t1 : gT h1 q = 23 := by rw [e1, gT_nH2, if_pos rfl]
    have z1 : gI h1 706 q = 0 := by rw [e1, gI_nH2, if_pos rfl]
    have s1 : ∀ a, gT h a ≠ 0 → ce h h1 a := fun a ha => by rw [e1]; exact ce_nH fun w => ha (by rw [w]; exact hq)
    clear e1
    refine sp_Wire_init t1 fun h2 i1 i2 i3 i4 i5 i6 i7 i8 s2 => ?_
    have s12 : ∀ a, gT h a ≠ 0 → ce h h2 a := fun a ha => ce_tr (s1 a ha) (s2 a fun w => ha (by rw [w]; exact hq))
    have cx := s12 vx (by rw [C.x]; decide)
    have cl := s12 (A 1 1) (by rw [C.lT (by omega)]; decide)
    refine ⟨by rw [cx.T]; exact C.x, A 1 1, by rw [cx.R]; exact C.p (by omega), by rw [cl.T]; exact C.lT (by omega), ?_⟩
    have ob : obW h2 (dWi d s a b c e) q (nW d) := by
      refine ⟨i1, by rw [i2, es]; simp [dWi, dN_eN, dL_eL, dI_eI, dL_eN, dI_eN, dN_eL, dI_eL, dN_eI, dL_eI, nS, nW, nJ, nL, nP, nO, nU, bas, wSh, wDr, jSh, lSh, lNm, pSh, pOp, oSh, oLb, oNm, uSh, uNm, uFr, uTo, wX, wY, wX2, wY2, jX, jY, lX, lY, pX, pY, par, pPt, rnk], by rw [i3], by rw [i4]; simp [dWi, dN_eN, dL_eL, dI_eI, dL_eN, dI_eN, dN_eL, dI_eL, dN_eI, dL_eI, nS, nW, nJ, nL, nP, nO, nU, bas, wSh, wDr, jSh, lSh, lNm, pSh, pOp, oSh, oLb, oNm, uSh, uNm, uFr, uTo, wX, wY, wX2, wY2, jX, jY, lX, lY, pX, pY, par, pPt, rnk], by rw [i5]; simp [dWi, dN_eN, dL_eL, dI_eI, dL_eN, dI_eN, dN_eL, dI_eL, dN_eI, dL_eI, nS, nW, nJ, nL, nP, nO, nU, bas, wSh, wDr, jSh, lSh, lNm, pSh, pOp, oSh, oLb, oNm, uSh, uNm, uFr, uTo, wX, wY, wX2, wY2, jX, jY, lX, lY, pX, pY, par, pPt, rnk], by rw [i6]; simp [dWi, dN_eN, dL_eL, dI_eI, dL_eN, dI_eN, dN_eL, dI_eL, dN_eI, dL_eI, nS, nW, nJ, nL, nP, nO, nU, bas, wSh, wDr, jSh, lSh, lNm, pSh, pOp, oSh, oLb, oNm, uSh, uNm, uFr, uTo, wX, wY, wX2, wY2, jX, jY, lX, lY, pX, pY, par, pPt, rnk], by rw [i7]; simp [dWi, dN_eN, dL_eL, dI_eI, dL_eN, dI_eN, dN_eL, dI_eL, dN_eI, dL_eI, nS, nW, nJ, nL, nP, nO, nU, bas, wSh, wDr, jSh, lSh, lNm, pSh, pOp, oSh, oLb, oNm, uSh, uNm, uFr, uTo, wX, wY, wX2, wY2, jX, jY, lX, lY, pX, pY, par, pPt, rnk], ?_⟩
      rw [i8, z1, show wDr (dWi d s a b c e) (nW d) = wDr d (nW d) from by simp [dWi, dN_eN, dL_eL, dI_eI, dL_eN, dI_eN, dN_eL, dI_eL, dN_eI, dL_eI, nS, nW, nJ, nL, nP, nO, nU, bas, wSh, wDr, jSh, lSh, lNm, pSh, pOp, oSh, oLb, oNm, uSh, uNm, uFr, uTo, wX, wY, wX2, wY2, jX, jY, lX, lY, pX, pY, par, pPt, rnk], wd0]; rfl
    obtain ⟨ct1, ct2, ct3⟩ := ct_wi (d := d) s a b c e
    refine sp_addObj (r := 4) C CB0.2.1 (by omega) (by omega) rfl (by show nW d < 100; exact w) hq (fun a ha _ => s12 a ha) ob (fun i hi => ob_wi hd s a b c e (by omega) (by omega) hi (obj_frame (s12 _ (lsT_ne (C.lvA (by omega) (by omega) hi)).1) ((C.2.1 4 (by omega) (by omega)).2 i hi).1)) (fun r' h3 h9 hr => ⟨ct2 r' h3 h9 hr, fun i g a hi o => ob_wi hd s _ _ _ _ h3 h9 hi o⟩) ct1 ct3 fun h3 A3 B3 C3 V3 m3 Q3 v3 b3 a3 cx3 => ?_
    have hd' : WF (dWi d s a b c e) := WF_wi hd hs w wd0
    obtain ⟨E, SBx, Nw⟩ := ext_wi (d := d) s a b c e
    have nS' : nS (dWi d s a b c e) = nS d := by simp [dWi, dN_eN, dL_eL, dI_eI, dL_eN, dI_eN, dN_eL, dI_eL, dN_eI, dL_eI, nS, nW, nJ, nL, nP, nO, nU, bas, wSh, wDr, jSh, lSh, lNm, pSh, pOp, oSh, oLb, oNm, uSh, uNm, uFr, uTo, wX, wY, wX2, wY2, jX, jY, lX, lY, pX, pY, par, pPt, rnk]
    have nW' : nW (dWi d s a b c e) = nW d + 1 := by simp [dWi, dN_eN, dL_eL, dI_eI, dL_eN, dI_eN, dN_eL, dI_eL, dN_eI, dL_eI, nS, nW, nJ, nL, nP, nO, nU, bas, wSh, wDr, jSh, lSh, lNm, pSh, pOp, oSh, oLb, oNm, uSh, uNm, uFr, uTo, wX, wY, wX2, wY2, jX, jY, lX, lY, pX, pY, par, pPt, rnk]
    have nJ' : nJ (dWi d s a b c e) = nJ d := by simp [dWi, dN_eN, dL_eL, dI_eI, dL_eN, dI_eN, dN_eL, dI_eL, dN_eI, dL_eI, nS, nW, nJ, nL, nP, nO, nU, bas, wSh, wDr, jSh, lSh, lNm, pSh, pOp, oSh, oLb, oNm, uSh, uNm, uFr, uTo, wX, wY, wX2, wY2, jX, jY, lX, lY, pX, pY, par, pPt, rnk]
    have nL' : nL (dWi d s a b c e) = nL d := by simp [dWi, dN_eN, dL_eL, dI_eI, dL_eN, dI_eN, dN_eL, dI_eL, dN_eI, dL_eI, nS, nW, nJ, nL, nP, nO, nU, bas, wSh, wDr, jSh, lSh, lNm, pSh, pOp, oSh, oLb, oNm, uSh, uNm, uFr, uTo, wX, wY, wX2, wY2, jX, jY, lX, lY, pX, pY, par, pPt, rnk]
    have nP' : nP (dWi d s a b c e) = nP d := by simp [dWi, dN_eN, dL_eL, dI_eI, dL_eN, dI_eN, dN_eL, dI_eL, dN_eI, dL_eI, nS, nW, nJ, nL, nP, nO, nU, bas, wSh, wDr, jSh, lSh, lNm, pSh, pOp, oSh, oLb, oNm, uSh, uNm, uFr, uTo, wX, wY, wX2, wY2, jX, jY, lX, lY, pX, pY, par, pPt, rnk]
    have lN' : ∀ l, lNm (dWi d s a b c e) l = lNm d l := fun l => by simp [dWi, dN_eN, dL_eL, dI_eI, dL_eN, dI_eN, dN_eL, dI_eL, dN_eI, dL_eI, nS, nW, nJ, nL, nP, nO, nU, bas, wSh, wDr, jSh, lSh, lNm, pSh, pOp, oSh, oLb, oNm, uSh, uNm, uFr, uTo, wX, wY, wX2, wY2, jX, jY, lX, lY, pX, pY, par, pPt, rnk]
    have X3 : XX Z vx A3 B3 h3 (dWi d s a b c e) (TT d) (SC d) := CB0.1.ad nS' v3 b3 m3 C3
    have R3 : Rst Z vx A3 B3 h3 d (nL (dWi d s a b c e)) pm := Rst.ad CB0 hp nL' v3 b3 m3 V3 Q3
    have hp' : PM (dWi d s a b c e) pm := by
      unfold PM; rw [nL']; simp only [lN']; exact hp
    have aq : A3 4 (nW d) = q := a3.1
    have zb := zb_wi s a b c e z
    have gr := gr_wi (d := d) s a b c e
    have eo' : o_wire (d, ch) x1 a b c e = (0, nI (nW d), nx (d, ch) (dWi d s a b c e)) := by rw [eo, cif_f (by omega)]
    have wD' : wDr (dWi d s a b c e) (nW d) = 0 := by rw [show wDr (dWi d s a b c e) (nW d) = wDr d (nW d) from by simp [dWi, dN_eN, dL_eL, dI_eI, dL_eN, dI_eN, dN_eL, dI_eL, dN_eI, dL_eI, nS, nW, nJ, nL, nP, nO, nU, bas, wSh, wDr, jSh, lSh, lNm, pSh, pOp, oSh, oLb, oNm, uSh, uNm, uFr, uTo, wX, wY, wX2, wY2, jX, jY, lX, lY, pX, pY, par, pPt, rnk]]; exact wd0
    obtain ⟨w1, w2⟩ := wire_TT E hd hd' nW' nJ' nL' nP' wD'
    generalize dWi d s a b c e = d' at *
    rw [← aq]
    have wn : nW d < nW d' := by omega
    refine ⟨C3.x, sp_joinEnds hd' X3.xt wn fun h4 X4 s4 => ⟨X4.1.x, sp_joinThrough hd' X4 wn fun h5 X5 s5 => ⟨X5.1.x, X5.1.x, ?_⟩⟩⟩
    rw [X5.1.p (k := 3) (by omega)]
    refine sp_joinWithSpots hd' X5 wn (Or.inl ⟨rfl, rfl, rfl⟩) fun h6 X6 s6 => ⟨X6.1.x, X6.1.x, ?_⟩
    rw [X6.1.p (k := 5) (by omega)]
    refine sp_joinWithSpots hd' X6 wn (Or.inr ⟨rfl, rfl, rfl⟩) fun h7 X7 s7 => ⟨X7.1.x, ?_⟩
    have s37 : sm12 B3 h3 h7 := sm_tr s4 (sm_tr s5 (sm_tr s6 s7))
    have X7' : XT Z vx A3 B3 h7 d' (TT d') := by
      refine X7.mo (fun x y p => w1 x y ?_) (fun x y p => (w2 x y p).mo fun u v q => EG.of ?_)
      · rcases p with (((p | p) | p) | p) | p
        · exact Or.inl p
        · exact Or.inr (Or.inl p)
        · exact Or.inr (Or.inr (Or.inl p))
        · exact Or.inr (Or.inr (Or.inr (Or.inl p)))
        · exact Or.inr (Or.inr (Or.inr (Or.inr p)))
      · rcases q with p | p | p | p | p
        · exact Or.inl (Or.inl (Or.inl (Or.inl p)))
        · exact Or.inl (Or.inl (Or.inl (Or.inr p)))
        · exact Or.inl (Or.inl (Or.inr p))
        · exact Or.inl (Or.inr p)
        · exact Or.inr p
    rw [es]
    refine sp_over hd hd' zb E SBx Nw (by omega) gr hp' (X3.of X7' s37) (R3.s2 C3 (sm12_2 s37)) fun h8 K8 m8 => k1 _ _ h8 A3 B3 eo' K8 ?_
    exact (m3.sub (by omega) (by omega)).tr ((mv.s2 (sm12_2 s37) (by omega)).tr m8)
  refine ⟨fun w => main fun y => w ((lg_cmp_eq _ _).mpr y.1), fun w => ⟨fun y => main fun x => y ((lg_cmp_eq _ _).mpr x.2), fun y => e3 fun x => x.2.2 ⟨(lg_cmp_eq _ _).mp w, (lg_cmp_eq _ _).mp y⟩⟩⟩
end OPS
