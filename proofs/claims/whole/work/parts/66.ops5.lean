section OPS5
variable {Z : Nat → Nat} {vx : Nat} {A A' : Nat → Nat → Nat} {B B' : Nat → Nat × Nat} {h h' : HS} {d c : DS} {ch : Nat → Prop} {pm : Nat → Nat}
/-- one thing is changed in its place -/
theorem CD.set {d' : DS} {a0 r0 : Nat} (C : CD Z vx A B h d) (V : lv A h) (ha : 3 ≤ (B a0).1) (h9 : (B a0).1 ≤ 10) (s : sm (fun a => a ≠ a0) h h') (o : ∀ r i, 3 ≤ r → r ≤ 9 → i < ctr d r → obj h' d' r (A r i) i) (hc : ∀ r, ctr d' r = ctr d r) (hr : gT h' (A 10 0) = 1 ∧ gN h' (A 10 0) = 1000 ∧ ∀ n, n < 1000 → gA h' (A 10 0) n = rnk d' n) : CD Z vx A B h' d' ∧ lv A h' := by
  have C0 := C
  obtain ⟨⟨c1, c2, c3⟩, c4, c5, c6, c7, c8, c9⟩ := C
  have cv := s vx (fun e => by rw [← e, c2] at ha; exact absurd ha (by show ¬ 3 ≤ 0; omega))
  have l1 : ∀ k, k < 8 → ce h h' (A 1 k) := fun k hk => s _ (fun e => by rw [← e, (c3 k hk).2.1] at ha; exact absurd ha (by show ¬ 3 ≤ 1; omega))
  have l2 : ∀ k, k < 8 → ce h h' (A 2 k) := fun k hk => s _ (fun e => by have := (C0.l2 V hk).2.1; rw [e] at this; omega)
  refine ⟨⟨⟨by rw [cv.T]; exact c1, c2, fun k hk => ?_⟩, fun r h1 h2 => ?_, ⟨by rw [cv.R]; exact c5, c6, hr⟩⟩, fun k hk => by rw [(l2 k hk).T]; exact V k hk⟩
  · obtain ⟨q1, q2, q3, q4⟩ := c3 k hk
    exact ⟨by rw [cv.R]; exact q1, q2, by rw [(l1 k hk).T]; exact q3, q4⟩
  · obtain ⟨p1, p2⟩ := c4 r h1 h2
    rw [hc]
    exact ⟨p1.frame (l1 _ (lsr_lt r)) (fun _ => l2 _ (lsr_lt r)), fun i hi => ⟨o r i h1 h2 hi, (p2 i hi).2⟩⟩
/-- the rest of the class's heap -/
theorem Rst.set {a0 m : Nat} (R : Rst Z vx A B h c m pm) (C : CD Z vx A B h d) (V' : lv A h') (ha : 3 ≤ (B a0).1) (h9 : (B a0).1 ≤ 10) (s : sm (fun a => a ≠ a0) h h') : Rst Z vx A B h' c m pm := by
  obtain ⟨V, T, N, Q, M⟩ := R
  have b := C.1.2.1
  have cv : cvx vx h h' := cvx.of (s vx (fun e => by rw [← e, b] at ha; exact absurd ha (by show ¬ 3 ≤ 0; omega)))
  have m : ∀ lo hi, (hi ≤ 2 ∨ 11 ≤ lo) → mv lo hi A A B B h h' := fun lo hi w => mv.of fun a h1 h2 => s a (fun e => by rw [e] at h1 h2; omega)
  obtain ⟨T', t1, t2⟩ := T.go cv b (m 15 15 (by omega))
  obtain ⟨q1, q2, q3, q4⟩ := C.1.2.2 4 (by omega)
  obtain ⟨z1, z2, z3⟩ := C.l2 V (k := 4) (by omega)
  refine ⟨V', T', N.go t1 t2, ?_, (M.go cv (m 16 16 (by omega))).1⟩
  exact lL.frame Q (s _ fun e => by rw [← e, q2] at ha; exact absurd ha (by show ¬ 3 ≤ 1; omega)) fun _ => s _ fun e => by rw [e] at z2; omega
theorem XX.set {a0 : Nat} {d' : DS} {S U : Nat → Nat → Prop} (X : XX Z vx A B h d S U) (C' : CD Z vx A B h' d') (e : nS d' = nS d) (ha : 3 ≤ (B a0).1) (h9 : (B a0).1 ≤ 10) (s : sm (fun a => a ≠ a0) h h') : XX Z vx A B h' d' S U := by
  obtain ⟨C, ⟨lt, T, L⟩, lj, J, M⟩ := X
  have c : ∀ a, ((B a).1 = 0 ∨ 11 ≤ (B a).1) → ce h h' a := fun a w => s a (fun e => by rw [e] at w; omega)
  exact ⟨C', ⟨lt, T.frame fun a w => c a (by omega), L⟩, lj, by rw [e]; exact J.frame fun a w => c a (by omega), M⟩
theorem CB.rst (C : CB Z vx A B h d pm) : Rst Z vx A B h d (nL d) pm := ⟨C.2.1, C.2.2.1, C.2.2.2.1, C.2.2.2.2.1, C.2.2.2.2.2⟩
theorem ob_dr (hd : WF d) {w0 : Nat} {g g' : HS} {r i : Nat} (a : Nat → Nat → Nat) (h3 : 3 ≤ r) (h9 : r ≤ 9) (hi : i < ctr d r) (hw : w0 < nW d) (inj : a r i = a 4 w0 → r = 4 ∧ i = w0) (e : g' = sI g 706 (a 4 w0) 1) (o : obj g d r (a r i) i) : obj g' (dDr d w0) r (a r i) i := by
  have hr : r = 3 ∨ r = 4 ∨ r = 5 ∨ r = 6 ∨ r = 7 ∨ r = 8 ∨ r = 9 := by omega
  rcases hr with rfl | rfl | rfl | rfl | rfl | rfl | rfl
  · have o' : obS g d (a 3 i) i := o
    show obS g' (dDr d w0) (a 3 i) i
    rw [e]; unfold obS at o' ⊢
    simpa [cp, cps, dDr, dN_eN, dL_eL, dI_eI, dL_eN, dI_eN, dN_eL, dI_eL, dN_eI, dL_eI, nS, nW, nJ, nL, nP, nO, nU, bas, wSh, wDr, jSh, lSh, lNm, pSh, pOp, oSh, oLb, oNm, uSh, uNm, uFr, uTo, wX, wY, wX2, wY2, jX, jY, lX, lY, pX, pY, par, pPt, rnk, gI_sI, gT_sI, gJ_sI] using o'
  · have o' : obW g d (a 4 i) i := o
    show obW g' (dDr d w0) (a 4 i) i
    rw [e]; unfold obW at o' ⊢
    by_cases z : i = w0
    · subst z
      simp only [gI_sI, gT_sI, gJ_sI]
      simp [dDr, dN_eN, dL_eL, dI_eI, dL_eN, dI_eN, dN_eL, dI_eL, dN_eI, dL_eI, nS, nW, nJ, nL, nP, nO, nU, bas, wSh, wDr, jSh, lSh, lNm, pSh, pOp, oSh, oLb, oNm, uSh, uNm, uFr, uTo, wX, wY, wX2, wY2, jX, jY, lX, lY, pX, pY, par, pPt, rnk] at o' ⊢
      exact ⟨o'.1, o'.2.1, o'.2.2.1, o'.2.2.2.1, o'.2.2.2.2.1, o'.2.2.2.2.2.1, o'.2.2.2.2.2.2.1, rfl⟩
    · have ne : a 4 i ≠ a 4 w0 := fun y => z (inj y).2
      simpa [dDr, dN_eN, dL_eL, dI_eI, dL_eN, dI_eN, dN_eL, dI_eL, dN_eI, dL_eI, nS, nW, nJ, nL, nP, nO, nU, bas, wSh, wDr, jSh, lSh, lNm, pSh, pOp, oSh, oLb, oNm, uSh, uNm, uFr, uTo, wX, wY, wX2, wY2, jX, jY, lX, lY, pX, pY, par, pPt, rnk, gI_sI, gT_sI, gJ_sI, z, ne] using o'
  · have o' : obJ g d (a 5 i) i := o
    show obJ g' (dDr d w0) (a 5 i) i
    rw [e]; unfold obJ at o' ⊢
    simpa [dDr, dN_eN, dL_eL, dI_eI, dL_eN, dI_eN, dN_eL, dI_eL, dN_eI, dL_eI, nS, nW, nJ, nL, nP, nO, nU, bas, wSh, wDr, jSh, lSh, lNm, pSh, pOp, oSh, oLb, oNm, uSh, uNm, uFr, uTo, wX, wY, wX2, wY2, jX, jY, lX, lY, pX, pY, par, pPt, rnk, gI_sI, gT_sI, gJ_sI] using o'
  · have o' : obL g d (a 6 i) i := o
    show obL g' (dDr d w0) (a 6 i) i
    rw [e]; unfold obL at o' ⊢
    simpa [dDr, dN_eN, dL_eL, dI_eI, dL_eN, dI_eN, dN_eL, dI_eL, dN_eI, dL_eI, nS, nW, nJ, nL, nP, nO, nU, bas, wSh, wDr, jSh, lSh, lNm, pSh, pOp, oSh, oLb, oNm, uSh, uNm, uFr, uTo, wX, wY, wX2, wY2, jX, jY, lX, lY, pX, pY, par, pPt, rnk, gI_sI, gT_sI, gJ_sI] using o'
  · have o' : obP g d (a 7 i) i := o
    show obP g' (dDr d w0) (a 7 i) i
    rw [e]; unfold obP at o' ⊢
    simpa [dDr, dN_eN, dL_eL, dI_eI, dL_eN, dI_eN, dN_eL, dI_eL, dN_eI, dL_eI, nS, nW, nJ, nL, nP, nO, nU, bas, wSh, wDr, jSh, lSh, lNm, pSh, pOp, oSh, oLb, oNm, uSh, uNm, uFr, uTo, wX, wY, wX2, wY2, jX, jY, lX, lY, pX, pY, par, pPt, rnk, gI_sI, gT_sI, gJ_sI] using o'
  · have o' : obO g d (a 8 i) i := o
    show obO g' (dDr d w0) (a 8 i) i
    rw [e]; unfold obO at o' ⊢
    simpa [pr, dDr, dN_eN, dL_eL, dI_eI, dL_eN, dI_eN, dN_eL, dI_eL, dN_eI, dL_eI, nS, nW, nJ, nL, nP, nO, nU, bas, wSh, wDr, jSh, lSh, lNm, pSh, pOp, oSh, oLb, oNm, uSh, uNm, uFr, uTo, wX, wY, wX2, wY2, jX, jY, lX, lY, pX, pY, par, pPt, rnk, gI_sI, gT_sI, gJ_sI] using o'
  · have o' : obU g d (a 9 i) i := o
    show obU g' (dDr d w0) (a 9 i) i
    rw [e]; unfold obU at o' ⊢
    simpa [dDr, dN_eN, dL_eL, dI_eI, dL_eN, dI_eN, dN_eL, dI_eL, dN_eI, dL_eI, nS, nW, nJ, nL, nP, nO, nU, bas, wSh, wDr, jSh, lSh, lNm, pSh, pOp, oSh, oLb, oNm, uSh, uNm, uFr, uTo, wX, wY, wX2, wY2, jX, jY, lX, lY, pX, pY, par, pPt, rnk, gI_sI, gT_sI, gJ_sI] using o'
theorem ob_op (hd : WF d) {p0 v : Nat} {g g' : HS} {r i : Nat} (a : Nat → Nat → Nat) (h3 : 3 ≤ r) (h9 : r ≤ 9) (hi : i < ctr d r) (inj : a r i = a 7 p0 → r = 7 ∧ i = p0) (e : g' = sI g 605 (a 7 p0) (nI v)) (o : obj g d r (a r i) i) : obj g' (dOp d p0 v) r (a r i) i := by
  have hr : r = 3 ∨ r = 4 ∨ r = 5 ∨ r = 6 ∨ r = 7 ∨ r = 8 ∨ r = 9 := by omega
  rcases hr with rfl | rfl | rfl | rfl | rfl | rfl | rfl
  · have o' : obS g d (a 3 i) i := o
    show obS g' (dOp d p0 v) (a 3 i) i
    rw [e]; unfold obS at o' ⊢
    simpa [cp, cps, dOp, dN_eN, dL_eL, dI_eI, dL_eN, dI_eN, dN_eL, dI_eL, dN_eI, dL_eI, nS, nW, nJ, nL, nP, nO, nU, bas, wSh, wDr, jSh, lSh, lNm, pSh, pOp, oSh, oLb, oNm, uSh, uNm, uFr, uTo, wX, wY, wX2, wY2, jX, jY, lX, lY, pX, pY, par, pPt, rnk, gI_sI, gT_sI, gJ_sI] using o'
  · have o' : obW g d (a 4 i) i := o
    show obW g' (dOp d p0 v) (a 4 i) i
    rw [e]; unfold obW at o' ⊢
    simpa [dOp, dN_eN, dL_eL, dI_eI, dL_eN, dI_eN, dN_eL, dI_eL, dN_eI, dL_eI, nS, nW, nJ, nL, nP, nO, nU, bas, wSh, wDr, jSh, lSh, lNm, pSh, pOp, oSh, oLb, oNm, uSh, uNm, uFr, uTo, wX, wY, wX2, wY2, jX, jY, lX, lY, pX, pY, par, pPt, rnk, gI_sI, gT_sI, gJ_sI] using o'
  · have o' : obJ g d (a 5 i) i := o
    show obJ g' (dOp d p0 v) (a 5 i) i
    rw [e]; unfold obJ at o' ⊢
    simpa [dOp, dN_eN, dL_eL, dI_eI, dL_eN, dI_eN, dN_eL, dI_eL, dN_eI, dL_eI, nS, nW, nJ, nL, nP, nO, nU, bas, wSh, wDr, jSh, lSh, lNm, pSh, pOp, oSh, oLb, oNm, uSh, uNm, uFr, uTo, wX, wY, wX2, wY2, jX, jY, lX, lY, pX, pY, par, pPt, rnk, gI_sI, gT_sI, gJ_sI] using o'
  · have o' : obL g d (a 6 i) i := o
    show obL g' (dOp d p0 v) (a 6 i) i
    rw [e]; unfold obL at o' ⊢
    simpa [dOp, dN_eN, dL_eL, dI_eI, dL_eN, dI_eN, dN_eL, dI_eL, dN_eI, dL_eI, nS, nW, nJ, nL, nP, nO, nU, bas, wSh, wDr, jSh, lSh, lNm, pSh, pOp, oSh, oLb, oNm, uSh, uNm, uFr, uTo, wX, wY, wX2, wY2, jX, jY, lX, lY, pX, pY, par, pPt, rnk, gI_sI, gT_sI, gJ_sI] using o'
  · have o' : obP g d (a 7 i) i := o
    show obP g' (dOp d p0 v) (a 7 i) i
    rw [e]; unfold obP at o' ⊢
    by_cases z : i = p0
    · subst z
      simp only [gI_sI, gT_sI, gJ_sI]
      simp [dOp, dN_eN, dL_eL, dI_eI, dL_eN, dI_eN, dN_eL, dI_eL, dN_eI, dL_eI, nS, nW, nJ, nL, nP, nO, nU, bas, wSh, wDr, jSh, lSh, lNm, pSh, pOp, oSh, oLb, oNm, uSh, uNm, uFr, uTo, wX, wY, wX2, wY2, jX, jY, lX, lY, pX, pY, par, pPt, rnk] at o' ⊢
      exact ⟨o'.1, o'.2.1, o'.2.2.1, o'.2.2.2.1, o'.2.2.2.2.1, o'.2.2.2.2.2.1⟩
    · have ne : a 7 i ≠ a 7 p0 := fun y => z (inj y).2
      simpa [dOp, dN_eN, dL_eL, dI_eI, dL_eN, dI_eN, dN_eL, dI_eL, dN_eI, dL_eI, nS, nW, nJ, nL, nP, nO, nU, bas, wSh, wDr, jSh, lSh, lNm, pSh, pOp, oSh, oLb, oNm, uSh, uNm, uFr, uTo, wX, wY, wX2, wY2, jX, jY, lX, lY, pX, pY, par, pPt, rnk, gI_sI, gT_sI, gJ_sI, z, ne] using o'
  · have o' : obO g d (a 8 i) i := o
    show obO g' (dOp d p0 v) (a 8 i) i
    rw [e]; unfold obO at o' ⊢
    simpa [pr, dOp, dN_eN, dL_eL, dI_eI, dL_eN, dI_eN, dN_eL, dI_eL, dN_eI, dL_eI, nS, nW, nJ, nL, nP, nO, nU, bas, wSh, wDr, jSh, lSh, lNm, pSh, pOp, oSh, oLb, oNm, uSh, uNm, uFr, uTo, wX, wY, wX2, wY2, jX, jY, lX, lY, pX, pY, par, pPt, rnk, gI_sI, gT_sI, gJ_sI] using o'
  · have o' : obU g d (a 9 i) i := o
    show obU g' (dOp d p0 v) (a 9 i) i
    rw [e]; unfold obU at o' ⊢
    simpa [dOp, dN_eN, dL_eL, dI_eI, dL_eN, dI_eN, dN_eL, dI_eL, dN_eI, dL_eI, nS, nW, nJ, nL, nP, nO, nU, bas, wSh, wDr, jSh, lSh, lNm, pSh, pOp, oSh, oLb, oNm, uSh, uNm, uFr, uTo, wX, wY, wX2, wY2, jX, jY, lX, lY, pX, pY, par, pPt, rnk, gI_sI, gT_sI, gJ_sI] using o'
theorem CD.inj (C : CD Z vx A B h d) {r i r0 i0 : Nat} (h1 : 3 ≤ r) (h2 : r ≤ 9) (hi : i < ctr d r) (h3 : 3 ≤ r0) (h4 : r0 ≤ 9) (hj : i0 < ctr d r0) (e : A r i = A r0 i0) : r = r0 ∧ i = i0 := by
  have a := C.tag h1 h2 hi
  rw [e, C.tag h3 h4 hj] at a
  exact ⟨(Prod.mk.inj a).1.symm, (Prod.mk.inj a).2.symm⟩
theorem k_drop {post : Int32 → HS → Prop} {exc : Nat → HS → Prop} {x1 : Int32} (K : KS Z vx A B h d ch) (k0 : o_drop (d, ch) x1 = (1, 0, (d, ch)) → exc 1 h) (k1 : ∀ r s h' A' B', o_drop (d, ch) x1 = (0, r, s) → KS Z vx A' B' h' s.1 s.2 → mv 20 100 A A' B B' h h' → post r h') : wp_NJ_drop Z post exc h vx x1 := by
  have K0 := K
  obtain ⟨hd, z, ⟨pm, hp, CB0⟩, I, F1, F2⟩ := K
  have hW := hd.1.2.1
  have C := CB0.1.1
  have no : (∀ k, k < nW d → x1 = nI k → wDr d k = 0 → False) → exc 1 h := fun n => k0 (by unfold o_drop; rw [cif_f]; rintro ⟨k, a, b, e⟩; exact n k a b e)
  refine ⟨fun w => no fun k k1 k2 _ => nI_pos (n := k) (by omega) (by rw [← k2]; exact w), fun w => ⟨C.x, A 1 1, C.p (by omega), C.lT (by omega), sp_size C.wi ?_⟩⟩
  obtain ⟨v, v1, rfl⟩ := nI_of w
  refine pk_le (nW d) v (fun y => no fun k k1 k2 _ => ?_) (fun y => ⟨C.x, A 1 1, C.p (by omega), C.lT (by omega), sp_get C.wi y ?_⟩)
  · rw [nI_eq (by omega) (by omega)] at k2; omega
  obtain ⟨o1, o2, o3, o4, o5, o6, o7, o8⟩ := C.W y
  have wd := (hd.2.2.1 v y).2.2
  refine ⟨cst o1, A 4 v, rfl, o1, ?_⟩
  rw [o8]
  refine ⟨fun e => ?_, fun e => no fun k k1 k2 k3 => e ?_⟩
  rotate_left
  · rw [nI_eq (by omega) (by omega)] at k2
    rw [k2, k3]; rfl
  have e0 : wDr d v = 0 := by
    rw [show (0 : Int32) = nI 0 from rfl, nI_eq (by omega) (by omega)] at e; exact e
  have eo : o_drop (d, ch) (nI v) = (0, nI (cn (Chg d (dDr d v)) (cnt (dDr d v))), nx (d, ch) (dDr d v)) := by
    unfold o_drop
    rw [cif_t ⟨v, y, rfl, e0⟩, tn_nI (by omega)]
  refine ⟨C.x, A 1 1, C.p (by omega), C.lT (by omega), sp_get C.wi y ⟨cst o1, A 4 v, rfl, o1, Or.inr rfl, ?_⟩⟩
  intro h1 e1
  have t4 := C.tag (r := 4) (i := v) (by omega) (by omega) y
  have b3 : 3 ≤ (B (A 4 v)).1 := by rw [t4]; show 3 ≤ 4; omega
  have b9 : (B (A 4 v)).1 ≤ 10 := by rw [t4]; show 4 ≤ 10; omega
  have s1 : sm (fun a => a ≠ A 4 v) h h1 := by rw [e1]; exact fun a ha => ce_sI ha
  have c10 := s1 (A 10 0) (fun w => by rw [← w, C.2.2.2.1] at t4; exact absurd (Prod.mk.inj t4).1 (by omega))
  obtain ⟨C1, V1⟩ := C.set (d' := dDr d v) (r0 := 4) CB0.2.1 b3 b9 s1 (fun r i h3 h9 hi => ob_dr hd A h3 h9 hi y (fun q => C.inj h3 h9 hi (by omega) (by omega) y q) e1 ((C.2.1 r h3 h9).2 i hi).1) (fun r => by simp [ctr, dDr, dN_eN, dL_eL, dI_eI, dL_eN, dI_eN, dN_eL, dI_eL, dN_eI, dL_eI, nS, nW, nJ, nL, nP, nO, nU, bas, wSh, wDr, jSh, lSh, lNm, pSh, pOp, oSh, oLb, oNm, uSh, uNm, uFr, uTo, wX, wY, wX2, wY2, jX, jY, lX, lY, pX, pY, par, pPt, rnk]) ⟨by rw [c10.T]; exact C.2.2.2.2.1, by rw [c10.N]; exact C.2.2.2.2.2.1, fun n hn => by rw [c10.A, C.2.2.2.2.2.2 n hn]; simp [dDr, dN_eN, dL_eL, dI_eI, dL_eN, dI_eN, dN_eL, dI_eL, dN_eI, dL_eI, nS, nW, nJ, nL, nP, nO, nU, bas, wSh, wDr, jSh, lSh, lNm, pSh, pOp, oSh, oLb, oNm, uSh, uNm, uFr, uTo, wX, wY, wX2, wY2, jX, jY, lX, lY, pX, pY, par, pPt, rnk]⟩
  have hd' : WF (dDr d v) := WF_dr hd
  have nS' : nS (dDr d v) = nS d := by simp [dDr, dN_eN, dL_eL, dI_eI, dL_eN, dI_eN, dN_eL, dI_eL, dN_eI, dL_eI, nS, nW, nJ, nL, nP, nO, nU, bas, wSh, wDr, jSh, lSh, lNm, pSh, pOp, oSh, oLb, oNm, uSh, uNm, uFr, uTo, wX, wY, wX2, wY2, jX, jY, lX, lY, pX, pY, par, pPt, rnk]
  have nL' : nL (dDr d v) = nL d := by simp [dDr, dN_eN, dL_eL, dI_eI, dL_eN, dI_eN, dN_eL, dI_eL, dN_eI, dL_eI, nS, nW, nJ, nL, nP, nO, nU, bas, wSh, wDr, jSh, lSh, lNm, pSh, pOp, oSh, oLb, oNm, uSh, uNm, uFr, uTo, wX, wY, wX2, wY2, jX, jY, lX, lY, pX, pY, par, pPt, rnk]
  have lN' : ∀ l, lNm (dDr d v) l = lNm d l := fun l => by simp [dDr, dN_eN, dL_eL, dI_eI, dL_eN, dI_eN, dN_eL, dI_eL, dN_eI, dL_eI, nS, nW, nJ, nL, nP, nO, nU, bas, wSh, wDr, jSh, lSh, lNm, pSh, pOp, oSh, oLb, oNm, uSh, uNm, uFr, uTo, wX, wY, wX2, wY2, jX, jY, lX, lY, pX, pY, par, pPt, rnk]
  have X1 := CB0.1.set C1 nS' b3 b9 s1
  have R1 : Rst Z vx A B h1 d (nL (dDr d v)) pm := by rw [nL']; exact CB0.rst.set C V1 b3 b9 s1
  have hp' : PM (dDr d v) pm := by
    unfold PM; rw [nL']; simp only [lN']; exact hp
  have gr : grows d (dDr d v) := grows_of (by simp [dDr, dN_eN, dL_eL, dI_eI, dL_eN, dI_eN, dN_eL, dI_eL, dN_eI, dL_eI, nS, nW, nJ, nL, nP, nO, nU, bas, wSh, wDr, jSh, lSh, lNm, pSh, pOp, oSh, oLb, oNm, uSh, uNm, uFr, uTo, wX, wY, wX2, wY2, jX, jY, lX, lY, pX, pY, par, pPt, rnk]) (by simp [dDr, dN_eN, dL_eL, dI_eI, dL_eN, dI_eN, dN_eL, dI_eL, dN_eI, dL_eI, nS, nW, nJ, nL, nP, nO, nU, bas, wSh, wDr, jSh, lSh, lNm, pSh, pOp, oSh, oLb, oNm, uSh, uNm, uFr, uTo, wX, wY, wX2, wY2, jX, jY, lX, lY, pX, pY, par, pPt, rnk]) (fun p hp => by simp [dDr, dN_eN, dL_eL, dI_eI, dL_eN, dI_eN, dN_eL, dI_eL, dN_eI, dL_eI, nS, nW, nJ, nL, nP, nO, nU, bas, wSh, wDr, jSh, lSh, lNm, pSh, pOp, oSh, oLb, oNm, uSh, uNm, uFr, uTo, wX, wY, wX2, wY2, jX, jY, lX, lY, pX, pY, par, pPt, rnk]) (fun t ht => by simp [dDr, dN_eN, dL_eL, dI_eI, dL_eN, dI_eN, dN_eL, dI_eL, dN_eI, dL_eI, nS, nW, nJ, nL, nP, nO, nU, bas, wSh, wDr, jSh, lSh, lNm, pSh, pOp, oSh, oLb, oNm, uSh, uNm, uFr, uTo, wX, wY, wX2, wY2, jX, jY, lX, lY, pX, pY, par, pPt, rnk])
  have zb : (∀ w, nW (dDr d v) ≤ w → wDr (dDr d v) w = 0) ∧ ∀ p, nP (dDr d v) ≤ p → pOp (dDr d v) p = 0 := by
    refine ⟨fun w hw => ?_, fun p hp => ?_⟩
    · have hw' : nW d ≤ w := by simpa [dDr, dN_eN, dL_eL, dI_eI, dL_eN, dI_eN, dN_eL, dI_eL, dN_eI, dL_eI, nS, nW, nJ, nL, nP, nO, nU, bas, wSh, wDr, jSh, lSh, lNm, pSh, pOp, oSh, oLb, oNm, uSh, uNm, uFr, uTo, wX, wY, wX2, wY2, jX, jY, lX, lY, pX, pY, par, pPt, rnk] using hw
      have ne : w ≠ v := by omega
      have := z.1 w hw'
      simpa [dDr, dN_eN, dL_eL, dI_eI, dL_eN, dI_eN, dN_eL, dI_eL, dN_eI, dL_eI, nS, nW, nJ, nL, nP, nO, nU, bas, wSh, wDr, jSh, lSh, lNm, pSh, pOp, oSh, oLb, oNm, uSh, uNm, uFr, uTo, wX, wY, wX2, wY2, jX, jY, lX, lY, pX, pY, par, pPt, rnk, ne] using this
    · have := z.2 p (by simpa [dDr, dN_eN, dL_eL, dI_eI, dL_eN, dI_eN, dN_eL, dI_eL, dN_eI, dL_eI, nS, nW, nJ, nL, nP, nO, nU, bas, wSh, wDr, jSh, lSh, lNm, pSh, pOp, oSh, oLb, oNm, uSh, uNm, uFr, uTo, wX, wY, wX2, wY2, jX, jY, lX, lY, pX, pY, par, pPt, rnk] using hp)
      simpa [dDr, dN_eN, dL_eL, dI_eI, dL_eN, dI_eN, dN_eL, dI_eL, dN_eI, dL_eI, nS, nW, nJ, nL, nP, nO, nU, bas, wSh, wDr, jSh, lSh, lNm, pSh, pOp, oSh, oLb, oNm, uSh, uNm, uFr, uTo, wX, wY, wX2, wY2, jX, jY, lX, lY, pX, pY, par, pPt, rnk] using this
  clear e1
  generalize dDr d v = d' at *
  refine ⟨C1.x, sp_joinAnew hd' X1 fun h2 X2 s2 => ⟨X2.1.x, KS_fin hd hd' zb gr hp' X2 (R1.s2 C1 s2) fun h3 K3 m3 => ?_⟩⟩
  obtain ⟨-, -, ⟨pm3, hp3, CB3⟩, I3, -⟩ := id K3
  refine ⟨CB3.1.1.x, A 15 0, CB3.2.2.1.1.1, CB3.2.2.1.2.1, sp_changedCount hd' CB3.2.2.1 CB3.2.2.2.1 I3 (k1 _ _ h3 A B eo K3 ?_)⟩
  refine (mv.of fun a g1 g2 => s1 a fun w => ?_).tr ((mv.s2 s2 (by omega)).tr m3)
  rw [w] at g1; omega
/-! what does not depend on ranks and open pins -/
def eqd (d e : DS) : Prop := TT e = TT d ∧ SC e = SC d ∧ SR e = SR d ∧ vR e = vR d ∧ ck e = ck d ∧ nL e = nL d ∧ (∀ l, lNm e l = lNm d l) ∧ inl e = inl d
theorem eqd_n {e : DS} (q : eqd d e) : fst e = fst d ∧ lst e = lst d ∧ nn e = nn d ∧ cnt e = cnt d := by
  obtain ⟨-, -, q1, q2, -⟩ := q
  have rr : RR e = RR d := by funext j k; unfold RR; rw [q1]
  have f : fst e = fst d := by funext k; unfold fst; rw [q2, rr]
  have l : lst e = lst d := by funext k; unfold lst; rw [q2, rr]
  refine ⟨f, l, ?_, ?_⟩
  · funext k; unfold nn; rw [f, l]
  · unfold cnt; rw [f]
end OPS5
