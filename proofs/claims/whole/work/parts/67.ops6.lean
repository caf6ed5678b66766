section OPS6
variable {Z : Nat → Nat} {vx : Nat} {A A' : Nat → Nat → Nat} {B B' : Nat → Nat × Nat} {h h' : HS} {d c : DS} {ch : Nat → Prop} {pm : Nat → Nat}
theorem inl_eq {e : DS} (h1 : SR e = SR d) (h2 : vR e = vR d) (h3 : nL e = nL d) (h4 : nS e = nS d) (h5 : ∀ l, lSh e l = lSh d l) (h6 : ∀ t, bas e t = bas d t) : inl e = inl d := by
  have rr : RR e = RR d := by funext j k; unfold RR; rw [h1]
  have f : fst e = fst d := by funext k; unfold fst; rw [h2, rr]
  have l : lst e = lst d := by funext k; unfold lst; rw [h2, rr]
  have n : nn e = nn d := by funext k; unfold nn; rw [f, l]
  funext a b t
  unfold inl
  rw [h1, h2, h3, h4, n, h5, h6]
theorem eqd_op {p v : Nat} : eqd d (dOp d p v) := by
  have h0 : TT (dOp d p v) = TT d := TT_op p v
  have h1 : SR (dOp d p v) = SR d := by
    funext x y; unfold SR; rw [h0]; simp [tSh, sSh, alike, mbs, mem, pr, dOp, dN_eN, dL_eL, dI_eI, dL_eN, dI_eN, dN_eL, dI_eL, dN_eI, dL_eI, nS, nW, nJ, nL, nP, nO, nU, bas, wSh, wDr, jSh, lSh, lNm, pSh, pOp, oSh, oLb, oNm, uSh, uNm, uFr, uTo, wX, wY, wX2, wY2, jX, jY, lX, lY, pX, pY, par, pPt, rnk]
  have h2 : vR (dOp d p v) = vR d := by funext k; simp [vR, dOp, dN_eN, dL_eL, dI_eI, dL_eN, dI_eN, dN_eL, dI_eL, dN_eI, dL_eI, nS, nW, nJ, nL, nP, nO, nU, bas, wSh, wDr, jSh, lSh, lNm, pSh, pOp, oSh, oLb, oNm, uSh, uNm, uFr, uTo, wX, wY, wX2, wY2, jX, jY, lX, lY, pX, pY, par, pPt, rnk]
  have s1 : SP (dOp d p v) = SP d := by
    funext x y; unfold SP; rw [h0]; simp [isp, sSh, cnd, cp, dOp, dN_eN, dL_eL, dI_eI, dL_eN, dI_eN, dN_eL, dI_eL, dN_eI, dL_eI, nS, nW, nJ, nL, nP, nO, nU, bas, wSh, wDr, jSh, lSh, lNm, pSh, pOp, oSh, oLb, oNm, uSh, uNm, uFr, uTo, wX, wY, wX2, wY2, jX, jY, lX, lY, pX, pY, par, pPt, rnk]
  have s2 : SB (dOp d p v) = SB d := by
    funext x y; simp [SB, lgb, meets, mbs, mem, dOp, dN_eN, dL_eL, dI_eI, dL_eN, dI_eN, dN_eL, dI_eL, dN_eI, dL_eI, nS, nW, nJ, nL, nP, nO, nU, bas, wSh, wDr, jSh, lSh, lNm, pSh, pOp, oSh, oLb, oNm, uSh, uNm, uFr, uTo, wX, wY, wX2, wY2, jX, jY, lX, lY, pX, pY, par, pPt, rnk]
  have s3 : SO (dOp d p v) = SO d := by
    funext x y; simp [SO, pr, dOp, dN_eN, dL_eL, dI_eI, dL_eN, dI_eN, dN_eL, dI_eL, dN_eI, dL_eI, nS, nW, nJ, nL, nP, nO, nU, bas, wSh, wDr, jSh, lSh, lNm, pSh, pOp, oSh, oLb, oNm, uSh, uNm, uFr, uTo, wX, wY, wX2, wY2, jX, jY, lX, lY, pX, pY, par, pPt, rnk]
  refine ⟨h0, ?_, h1, h2, ?_, by simp [dOp, dN_eN, dL_eL, dI_eI, dL_eN, dI_eN, dN_eL, dI_eL, dN_eI, dL_eI, nS, nW, nJ, nL, nP, nO, nU, bas, wSh, wDr, jSh, lSh, lNm, pSh, pOp, oSh, oLb, oNm, uSh, uNm, uFr, uTo, wX, wY, wX2, wY2, jX, jY, lX, lY, pX, pY, par, pPt, rnk], fun l => by simp [dOp, dN_eN, dL_eL, dI_eI, dL_eN, dI_eN, dN_eL, dI_eL, dN_eI, dL_eI, nS, nW, nJ, nL, nP, nO, nU, bas, wSh, wDr, jSh, lSh, lNm, pSh, pOp, oSh, oLb, oNm, uSh, uNm, uFr, uTo, wX, wY, wX2, wY2, jX, jY, lX, lY, pX, pY, par, pPt, rnk], inl_eq h1 h2 (by simp [dOp, dN_eN, dL_eL, dI_eI, dL_eN, dI_eN, dN_eL, dI_eL, dN_eI, dL_eI, nS, nW, nJ, nL, nP, nO, nU, bas, wSh, wDr, jSh, lSh, lNm, pSh, pOp, oSh, oLb, oNm, uSh, uNm, uFr, uTo, wX, wY, wX2, wY2, jX, jY, lX, lY, pX, pY, par, pPt, rnk]) (by simp [dOp, dN_eN, dL_eL, dI_eI, dL_eN, dI_eN, dN_eL, dI_eL, dN_eI, dL_eI, nS, nW, nJ, nL, nP, nO, nU, bas, wSh, wDr, jSh, lSh, lNm, pSh, pOp, oSh, oLb, oNm, uSh, uNm, uFr, uTo, wX, wY, wX2, wY2, jX, jY, lX, lY, pX, pY, par, pPt, rnk]) (fun l => by simp [dOp, dN_eN, dL_eL, dI_eI, dL_eN, dI_eN, dN_eL, dI_eL, dN_eI, dL_eI, nS, nW, nJ, nL, nP, nO, nU, bas, wSh, wDr, jSh, lSh, lNm, pSh, pOp, oSh, oLb, oNm, uSh, uNm, uFr, uTo, wX, wY, wX2, wY2, jX, jY, lX, lY, pX, pY, par, pPt, rnk]) (fun t => by simp [dOp, dN_eN, dL_eL, dI_eI, dL_eN, dI_eN, dN_eL, dI_eL, dN_eI, dL_eI, nS, nW, nJ, nL, nP, nO, nU, bas, wSh, wDr, jSh, lSh, lNm, pSh, pOp, oSh, oLb, oNm, uSh, uNm, uFr, uTo, wX, wY, wX2, wY2, jX, jY, lX, lY, pX, pY, par, pPt, rnk])⟩
  · funext x y; unfold SC; rw [s1, s2, s3]
  · funext k; simp [ck, cp, dOp, dN_eN, dL_eL, dI_eI, dL_eN, dI_eN, dN_eL, dI_eL, dN_eI, dL_eI, nS, nW, nJ, nL, nP, nO, nU, bas, wSh, wDr, jSh, lSh, lNm, pSh, pOp, oSh, oLb, oNm, uSh, uNm, uFr, uTo, wX, wY, wX2, wY2, jX, jY, lX, lY, pX, pY, par, pPt, rnk]
theorem eqd_rk {n : Nat} {r : Int32} : eqd d (dRk d n r) := by
  have h0 : TT (dRk d n r) = TT d := TT_rk n r
  have h1 : SR (dRk d n r) = SR d := by
    funext x y; unfold SR; rw [h0]; simp [tSh, sSh, alike, mbs, mem, pr, dRk, dN_eN, dL_eL, dI_eI, dL_eN, dI_eN, dN_eL, dI_eL, dN_eI, dL_eI, nS, nW, nJ, nL, nP, nO, nU, bas, wSh, wDr, jSh, lSh, lNm, pSh, pOp, oSh, oLb, oNm, uSh, uNm, uFr, uTo, wX, wY, wX2, wY2, jX, jY, lX, lY, pX, pY, par, pPt, rnk] <;> rfl
  have h2 : vR (dRk d n r) = vR d := by funext k; simp [vR, dRk, dN_eN, dL_eL, dI_eI, dL_eN, dI_eN, dN_eL, dI_eL, dN_eI, dL_eI, nS, nW, nJ, nL, nP, nO, nU, bas, wSh, wDr, jSh, lSh, lNm, pSh, pOp, oSh, oLb, oNm, uSh, uNm, uFr, uTo, wX, wY, wX2, wY2, jX, jY, lX, lY, pX, pY, par, pPt, rnk]
  have s1 : SP (dRk d n r) = SP d := by
    funext x y; unfold SP; rw [h0]; simp [isp, sSh, cnd, cp, dRk, dN_eN, dL_eL, dI_eI, dL_eN, dI_eN, dN_eL, dI_eL, dN_eI, dL_eI, nS, nW, nJ, nL, nP, nO, nU, bas, wSh, wDr, jSh, lSh, lNm, pSh, pOp, oSh, oLb, oNm, uSh, uNm, uFr, uTo, wX, wY, wX2, wY2, jX, jY, lX, lY, pX, pY, par, pPt, rnk]
  have s2 : SB (dRk d n r) = SB d := by
    funext x y; simp [SB, lgb, meets, mbs, mem, dRk, dN_eN, dL_eL, dI_eI, dL_eN, dI_eN, dN_eL, dI_eL, dN_eI, dL_eI, nS, nW, nJ, nL, nP, nO, nU, bas, wSh, wDr, jSh, lSh, lNm, pSh, pOp, oSh, oLb, oNm, uSh, uNm, uFr, uTo, wX, wY, wX2, wY2, jX, jY, lX, lY, pX, pY, par, pPt, rnk] <;> rfl
  have s3 : SO (dRk d n r) = SO d := by
    funext x y; simp [SO, pr, dRk, dN_eN, dL_eL, dI_eI, dL_eN, dI_eN, dN_eL, dI_eL, dN_eI, dL_eI, nS, nW, nJ, nL, nP, nO, nU, bas, wSh, wDr, jSh, lSh, lNm, pSh, pOp, oSh, oLb, oNm, uSh, uNm, uFr, uTo, wX, wY, wX2, wY2, jX, jY, lX, lY, pX, pY, par, pPt, rnk]
  refine ⟨h0, ?_, h1, h2, ?_, by simp [dRk, dN_eN, dL_eL, dI_eI, dL_eN, dI_eN, dN_eL, dI_eL, dN_eI, dL_eI, nS, nW, nJ, nL, nP, nO, nU, bas, wSh, wDr, jSh, lSh, lNm, pSh, pOp, oSh, oLb, oNm, uSh, uNm, uFr, uTo, wX, wY, wX2, wY2, jX, jY, lX, lY, pX, pY, par, pPt, rnk], fun l => by simp [dRk, dN_eN, dL_eL, dI_eI, dL_eN, dI_eN, dN_eL, dI_eL, dN_eI, dL_eI, nS, nW, nJ, nL, nP, nO, nU, bas, wSh, wDr, jSh, lSh, lNm, pSh, pOp, oSh, oLb, oNm, uSh, uNm, uFr, uTo, wX, wY, wX2, wY2, jX, jY, lX, lY, pX, pY, par, pPt, rnk], inl_eq h1 h2 (by simp [dRk, dN_eN, dL_eL, dI_eI, dL_eN, dI_eN, dN_eL, dI_eL, dN_eI, dL_eI, nS, nW, nJ, nL, nP, nO, nU, bas, wSh, wDr, jSh, lSh, lNm, pSh, pOp, oSh, oLb, oNm, uSh, uNm, uFr, uTo, wX, wY, wX2, wY2, jX, jY, lX, lY, pX, pY, par, pPt, rnk]) (by simp [dRk, dN_eN, dL_eL, dI_eI, dL_eN, dI_eN, dN_eL, dI_eL, dN_eI, dL_eI, nS, nW, nJ, nL, nP, nO, nU, bas, wSh, wDr, jSh, lSh, lNm, pSh, pOp, oSh, oLb, oNm, uSh, uNm, uFr, uTo, wX, wY, wX2, wY2, jX, jY, lX, lY, pX, pY, par, pPt, rnk]) (fun l => by simp [dRk, dN_eN, dL_eL, dI_eI, dL_eN, dI_eN, dN_eL, dI_eL, dN_eI, dL_eI, nS, nW, nJ, nL, nP, nO, nU, bas, wSh, wDr, jSh, lSh, lNm, pSh, pOp, oSh, oLb, oNm, uSh, uNm, uFr, uTo, wX, wY, wX2, wY2, jX, jY, lX, lY, pX, pY, par, pPt, rnk]) (fun t => by simp [dRk, dN_eN, dL_eL, dI_eI, dL_eN, dI_eN, dN_eL, dI_eL, dN_eI, dL_eI, nS, nW, nJ, nL, nP, nO, nU, bas, wSh, wDr, jSh, lSh, lNm, pSh, pOp, oSh, oLb, oNm, uSh, uNm, uFr, uTo, wX, wY, wX2, wY2, jX, jY, lX, lY, pX, pY, par, pPt, rnk])⟩
  · funext x y; unfold SC; rw [s1, s2, s3]
  · funext k; simp [ck, cp, dRk, dN_eN, dL_eL, dI_eI, dL_eN, dI_eN, dN_eL, dI_eL, dN_eI, dL_eI, nS, nW, nJ, nL, nP, nO, nU, bas, wSh, wDr, jSh, lSh, lNm, pSh, pOp, oSh, oLb, oNm, uSh, uNm, uFr, uTo, wX, wY, wX2, wY2, jX, jY, lX, lY, pX, pY, par, pPt, rnk]
/-- a thing was changed that no net depends on; the remarks are no longer listed -/
theorem KS_eq {e : DS} {a0 : Nat} {h1 h2 : HS} (K : KS Z vx A B h d ch) (q : eqd d e) (he : WF e) (zb : (∀ w, nW e ≤ w → wDr e w = 0) ∧ ∀ p, nP e ≤ p → pOp e p = 0) (e1 : nS e = nS d) (C1 : CD Z vx A B h1 e) (V1 : lv A h1) (ha : 3 ≤ (B a0).1) (h9 : (B a0).1 ≤ 10) (s : sm (fun a => a ≠ a0) h h1) (e2 : h2 = sI h1 17 vx 0) : KS Z vx A B h2 e ch ∧ mv 20 100 A A B B h h2 := by
  obtain ⟨hd, z, ⟨pm, hp, CB0⟩, I, F1, F2⟩ := K
  obtain ⟨n1, n2, n3, n4⟩ := eqd_n q
  obtain ⟨q1, q2, q3, q4, q5, q6, q7, q8⟩ := q
  have C := CB0.1.1
  have bx := C.1.2.1
  have cx := s vx (fun w => by rw [← w, bx] at ha; exact absurd ha (by show ¬ 3 ≤ 0; omega))
  have X1 := CB0.1.set C1 e1 ha h9 s
  have R1 := CB0.rst.set C V1 ha h9 s
  have hp' : PM e pm := by
    unfold PM; rw [q6]; simp only [q7]; exact hp
  have c16 : ∀ i, i < 3 → ce h h1 (A 16 i) := fun i hi => s _ fun w => by have := CB0.b16 hi; rw [w] at this; rw [this] at h9; exact absurd h9 (by show ¬ 16 ≤ 10; omega)
  have c15 : ∀ i, i < 6 → ce h h1 (A 15 i) := fun i hi => s _ fun w => by have := CB0.2.2.1.1.2.2 i hi; rw [w] at this; rw [this] at h9; exact absurd h9 (by show ¬ 15 ≤ 10; omega)
  have N1 : NT e A h1 960 := by
    have := R1.2.2.1
    unfold NT at this ⊢
    rw [n1, n2, n3, q4, q5]; exact this
  have CB1 : CB Z vx A B h1 e pm := ⟨by rw [q1, q2]; exact X1, V1, R1.2.1, N1, by rw [q6]; exact R1.2.2.2.1, R1.2.2.2.2⟩
  have v2 : cvx vx h1 h2 := by rw [e2]; exact cvx.sI
  have m2 : ∀ lo hi, 1 ≤ lo → mv lo hi A A B B h1 h2 := fun lo hi w => by rw [e2]; exact flag_mv bx w
  have CB2 := CB1.go v2 (m2 1 16 (by omega))
  refine ⟨⟨he, zb, ⟨pm, hp', CB2⟩, ?_, fun w => ?_, fun w => absurd (by rw [e2, gI_sI, if_pos ⟨rfl, rfl⟩]) w⟩, (mv.of fun a g1 g2 => s a fun w => by rw [w] at g1; omega).tr (m2 20 100 (by omega))⟩
  · unfold IC at I ⊢
    rw [n4, e2, gA_sI, (c15 5 (by omega)).A]; exact I
  · rw [e2, gI_sI, if_neg (by omega), cx.I] at w
    have := F1 w
    have hn : hasNm e = hasNm d := by funext a b; unfold hasNm; rw [q8]; simp only [q7]
    unfold NL at this ⊢
    rw [n4, hn, e2]
    simp only [gA_sI]
    rw [(c16 0 (by omega)).A, (c16 1 (by omega)).A]; exact this
theorem sp_needPin {post : HS → Prop} {exc : Nat → HS → Prop} {x : Int32} (hd : WF d) (C : CD Z vx A B h d) (k0 : (∃ p, p < nP d ∧ x = nI p) → post h) (k1 : (¬ ∃ p, p < nP d ∧ x = nI p) → exc 1 h) : wp_NJ_needPin Z post exc h vx x := by
  have hP := hd.1.2.2.2.2.1
  refine ⟨fun z => k1 fun ⟨s, s1, s2⟩ => nI_pos (n := s) (by omega) (by rw [← s2]; exact z), fun z => ⟨C.x, A 1 5, C.p (by omega), C.lT (by omega), sp_size C.pi ?_⟩⟩
  obtain ⟨s, s1, rfl⟩ := nI_of z
  refine pk_lt s (nP d) (fun w => k0 ⟨s, w, rfl⟩) (fun w => k1 fun ⟨t, t1, t2⟩ => ?_)
  rw [nI_eq (by omega) (by omega)] at t2; omega
theorem k_open {post : Int32 → HS → Prop} {exc : Nat → HS → Prop} {x1 : Int32} (K : KS Z vx A B h d ch) (k0 : o_open (d, ch) x1 = (1, 0, (d, ch)) → exc 1 h) (k1 : ∀ r s h' A' B', o_open (d, ch) x1 = (0, r, s) → r = 0 ∨ r = 1 → KS Z vx A' B' h' s.1 s.2 → mv 20 100 A A' B B' h h' → post r h') : wp_NJ_open Z post exc h vx x1 := by
  have K0 := K
  obtain ⟨hd, z, ⟨pm, hp, CB0⟩, I, F1, F2⟩ := K
  have hP := hd.1.2.2.2.2.1
  have C := CB0.1.1
  refine ⟨C.x, sp_needPin hd C (fun ip => ?_) (fun n => k0 (by unfold o_open; rw [cif_f n]))⟩
  obtain ⟨p, hpp, rfl⟩ := id ip
  obtain ⟨o1, o2, o3, o4, o5, o6, o7⟩ := C.P hpp
  have po := (hd.2.2.2.2.2.1 p hpp).2.2
  have eo : o_open (d, ch) (nI p) = (0, nI (1 - pOp d p), (dOp d p (1 - pOp d p), ch)) := by
    unfold o_open; rw [cif_t ip, tn_nI (by omega)]
  have t7 := C.tag (r := 7) (i := p) (by omega) (by omega) hpp
  have b3 : 3 ≤ (B (A 7 p)).1 := by rw [t7]; show 3 ≤ 7; omega
  have b9 : (B (A 7 p)).1 ≤ 10 := by rw [t7]; show 7 ≤ 10; omega
  have bx := C.1.2.1
  have px : A 7 p ≠ vx := fun w => by rw [w, bx] at b3; exact absurd b3 (by show ¬ 3 ≤ 0; omega)
  refine ⟨C.x, A 1 5, C.p (by omega), C.lT (by omega), sp_get C.pi hpp ⟨cst o1, A 7 p, rfl, o1, ?_⟩⟩
  rw [o7]
  have key : ∀ v, v = 1 - pOp d p → ∀ h1, h1 = sI h 605 (A 7 p) (nI v) → gT h1 vx = 16 ∧ (((0 : Int32) = 0 ∨ (0 : Int32) = 1) ∧ (∀ h2, h2 = sI h1 17 vx (0 : Int32) → (∃ a20, some (A 7 p) = some a20 ∧ gT h2 a20 = 22 ∧ (((gI h2 605 a20) = 0 ∨ (gI h2 605 a20) = 1) ∧ post (gI h2 605 a20) h2)))) := by
    intro v ev h1 e1
    have s1 : sm (fun a => a ≠ A 7 p) h h1 := by rw [e1]; exact fun a ha => ce_sI ha
    have c10 := s1 (A 10 0) (fun w => by rw [← w, C.2.2.2.1] at t7; exact absurd (Prod.mk.inj t7).1 (by omega))
    obtain ⟨C1, V1⟩ := C.set (d' := dOp d p v) (r0 := 7) CB0.2.1 b3 b9 s1 (fun r i h3 h9 hi => ob_op hd A h3 h9 hi (fun q => C.inj h3 h9 hi (by omega) (by omega) hpp q) e1 ((C.2.1 r h3 h9).2 i hi).1) (fun r => by simp [ctr, dOp, dN_eN, dL_eL, dI_eI, dL_eN, dI_eN, dN_eL, dI_eL, dN_eI, dL_eI, nS, nW, nJ, nL, nP, nO, nU, bas, wSh, wDr, jSh, lSh, lNm, pSh, pOp, oSh, oLb, oNm, uSh, uNm, uFr, uTo, wX, wY, wX2, wY2, jX, jY, lX, lY, pX, pY, par, pPt, rnk]) ⟨by rw [c10.T]; exact C.2.2.2.2.1, by rw [c10.N]; exact C.2.2.2.2.2.1, fun n hn => by rw [c10.A, C.2.2.2.2.2.2 n hn]; simp [dOp, dN_eN, dL_eL, dI_eI, dL_eN, dI_eN, dN_eL, dI_eL, dN_eI, dL_eI, nS, nW, nJ, nL, nP, nO, nU, bas, wSh, wDr, jSh, lSh, lNm, pSh, pOp, oSh, oLb, oNm, uSh, uNm, uFr, uTo, wX, wY, wX2, wY2, jX, jY, lX, lY, pX, pY, par, pPt, rnk]⟩
    have hd' : WF (dOp d p v) := WF_op hd (by omega)
    have zb : (∀ w, nW (dOp d p v) ≤ w → wDr (dOp d p v) w = 0) ∧ ∀ q, nP (dOp d p v) ≤ q → pOp (dOp d p v) q = 0 := by
      refine ⟨fun w hw => ?_, fun q hq => ?_⟩
      · have := z.1 w (by simpa [dOp, dN_eN, dL_eL, dI_eI, dL_eN, dI_eN, dN_eL, dI_eL, dN_eI, dL_eI, nS, nW, nJ, nL, nP, nO, nU, bas, wSh, wDr, jSh, lSh, lNm, pSh, pOp, oSh, oLb, oNm, uSh, uNm, uFr, uTo, wX, wY, wX2, wY2, jX, jY, lX, lY, pX, pY, par, pPt, rnk] using hw)
        simpa [dOp, dN_eN, dL_eL, dI_eI, dL_eN, dI_eN, dN_eL, dI_eL, dN_eI, dL_eI, nS, nW, nJ, nL, nP, nO, nU, bas, wSh, wDr, jSh, lSh, lNm, pSh, pOp, oSh, oLb, oNm, uSh, uNm, uFr, uTo, wX, wY, wX2, wY2, jX, jY, lX, lY, pX, pY, par, pPt, rnk] using this
      · have hq' : nP d ≤ q := by simpa [dOp, dN_eN, dL_eL, dI_eI, dL_eN, dI_eN, dN_eL, dI_eL, dN_eI, dL_eI, nS, nW, nJ, nL, nP, nO, nU, bas, wSh, wDr, jSh, lSh, lNm, pSh, pOp, oSh, oLb, oNm, uSh, uNm, uFr, uTo, wX, wY, wX2, wY2, jX, jY, lX, lY, pX, pY, par, pPt, rnk] using hq
        have ne : q ≠ p := by omega
        have := z.2 q hq'
        simpa [dOp, dN_eN, dL_eL, dI_eI, dL_eN, dI_eN, dN_eL, dI_eL, dN_eI, dL_eI, nS, nW, nJ, nL, nP, nO, nU, bas, wSh, wDr, jSh, lSh, lNm, pSh, pOp, oSh, oLb, oNm, uSh, uNm, uFr, uTo, wX, wY, wX2, wY2, jX, jY, lX, lY, pX, pY, par, pPt, rnk, ne] using this
    refine ⟨C1.x, Or.inl rfl, ?_⟩
    intro h2 e2
    obtain ⟨K2, m2⟩ := KS_eq K0 eqd_op hd' zb (by simp [dOp, dN_eN, dL_eL, dI_eI, dL_eN, dI_eN, dN_eL, dI_eL, dN_eI, dL_eI, nS, nW, nJ, nL, nP, nO, nU, bas, wSh, wDr, jSh, lSh, lNm, pSh, pOp, oSh, oLb, oNm, uSh, uNm, uFr, uTo, wX, wY, wX2, wY2, jX, jY, lX, lY, pX, pY, par, pPt, rnk]) C1 V1 b3 b9 s1 e2
    have g2 : gI h2 605 (A 7 p) = nI v := by rw [e2, gI_sI, if_neg (fun w => px w.2), e1, gI_sI, if_pos ⟨rfl, rfl⟩]
    have v01 : nI v = 0 ∨ nI v = 1 := by
      have : v = 0 ∨ v = 1 := by omega
      rcases this with w | w
      · left; rw [w]; rfl
      · right; rw [w]; rfl
    refine ⟨A 7 p, rfl, by rw [e2, gT_sI, e1, gT_sI]; exact o1, ?_⟩
    rw [g2]
    exact ⟨v01, k1 _ _ h2 A B (by rw [eo, ← ev]) v01 K2 m2⟩
  refine ⟨fun e => ⟨A 7 p, rfl, o1, Or.inl rfl, fun h1 e1 => ?_⟩, fun e => ⟨A 7 p, rfl, o1, Or.inr rfl, fun h1 e1 => ?_⟩⟩
  · refine key 0 ?_ h1 e1
    have : pOp d p ≠ 0 := fun w => e (by rw [w]; rfl)
    omega
  · refine key 1 ?_ h1 e1
    rw [show (0 : Int32) = nI 0 from rfl, nI_eq (by omega) (by omega)] at e
    omega
theorem k_rank {post : Int32 → HS → Prop} {exc : Nat → HS → Prop} {x1 x2 : Int32} (K : KS Z vx A B h d ch) (k0 : o_rank (d, ch) x1 x2 = (1, 0, (d, ch)) → exc 3 h) (k1 : ∀ r s h' A' B', o_rank (d, ch) x1 x2 = (0, r, s) → r = 0 ∨ r = 1 → KS Z vx A' B' h' s.1 s.2 → mv 20 100 A A' B B' h h' → post r h') : wp_NJ_rank Z post exc h vx x1 x2 := by
  have K0 := K
  obtain ⟨hd, z, ⟨pm, hp, CB0⟩, I, F1, F2⟩ := K
  have C := CB0.1.1
  have no : ¬ (isN x1 ∧ (-9 : Int32) ≤ x2 ∧ x2 ≤ (9 : Int32)) → exc 3 h := fun n => k0 (by unfold o_rank; rw [cif_f n])
  refine sp_needName (fun ip => ?_) (fun n => no fun w => n w.1)
  have lt9 : ¬ x2 < (-9 : Int32) ↔ (-9 : Int32) ≤ x2 := by
    rw [Int32.lt_iff_toInt_lt, Int32.le_iff_toInt_le]; omega
  refine ⟨fun w => no fun y => lt9.mpr y.2.1 w, fun w => ⟨fun w2 => ?_, fun w2 => no fun y => w2 y.2.2⟩⟩
  obtain ⟨n, hn, rfl⟩ := id ip
  obtain ⟨r1, r2, r3, r4⟩ := CB0.rk
  have t10 := C.2.2.2.1
  have b3 : 3 ≤ (B (A 10 0)).1 := by rw [t10]; show 3 ≤ 10; omega
  have b9 : (B (A 10 0)).1 ≤ 10 := by rw [t10]; show 10 ≤ 10; omega
  have eo : o_rank (d, ch) (nI n) x2 = cif (rnk d n = x2) (0, 0, (d, ch)) (0, 1, (dRk d n x2, ch)) := by
    unfold o_rank; rw [cif_t ⟨ip, lt9.mp w, w2⟩, tn_nI (by omega)]
  refine ⟨C.x, A 10 0, r1, r2, by rw [r3]; exact pk_in n _ hn, ?_⟩
  rw [jr_cl (by omega), r4 n hn]
  refine ⟨fun ne => ⟨C.x, A 10 0, r1, r2, by rw [r3]; exact pk_in n _ hn, ?_⟩, fun e => k1 _ _ h A B (by rw [eo, cif_t e]) (Or.inl rfl) K0 mv.rf⟩
  intro h1 e1
  have s1 : sm (fun a => a ≠ A 10 0) h h1 := by rw [e1]; exact fun a ha => ce_sA ha
  have obk : ∀ (g : HS) (r a i : Nat), 3 ≤ r → r ≤ 9 → obj g d r a i → obj g (dRk d n x2) r a i := by
    intro g r a i h3 h9 o
    have hr : r = 3 ∨ r = 4 ∨ r = 5 ∨ r = 6 ∨ r = 7 ∨ r = 8 ∨ r = 9 := by omega
    rcases hr with rfl | rfl | rfl | rfl | rfl | rfl | rfl
    · have o' : obS g d a i := o
      show obS g (dRk d n x2) a i
      unfold obS at o' ⊢
      simpa [cp, cps, dRk, dN_eN, dL_eL, dI_eI, dL_eN, dI_eN, dN_eL, dI_eL, dN_eI, dL_eI, nS, nW, nJ, nL, nP, nO, nU, bas, wSh, wDr, jSh, lSh, lNm, pSh, pOp, oSh, oLb, oNm, uSh, uNm, uFr, uTo, wX, wY, wX2, wY2, jX, jY, lX, lY, pX, pY, par, pPt, rnk] using o'
    · have o' : obW g d a i := o
      show obW g (dRk d n x2) a i
      unfold obW at o' ⊢
      simpa [dRk, dN_eN, dL_eL, dI_eI, dL_eN, dI_eN, dN_eL, dI_eL, dN_eI, dL_eI, nS, nW, nJ, nL, nP, nO, nU, bas, wSh, wDr, jSh, lSh, lNm, pSh, pOp, oSh, oLb, oNm, uSh, uNm, uFr, uTo, wX, wY, wX2, wY2, jX, jY, lX, lY, pX, pY, par, pPt, rnk] using o'
    · have o' : obJ g d a i := o
      show obJ g (dRk d n x2) a i
      unfold obJ at o' ⊢
      simpa [dRk, dN_eN, dL_eL, dI_eI, dL_eN, dI_eN, dN_eL, dI_eL, dN_eI, dL_eI, nS, nW, nJ, nL, nP, nO, nU, bas, wSh, wDr, jSh, lSh, lNm, pSh, pOp, oSh, oLb, oNm, uSh, uNm, uFr, uTo, wX, wY, wX2, wY2, jX, jY, lX, lY, pX, pY, par, pPt, rnk] using o'
    · have o' : obL g d a i := o
      show obL g (dRk d n x2) a i
      unfold obL at o' ⊢
      simpa [dRk, dN_eN, dL_eL, dI_eI, dL_eN, dI_eN, dN_eL, dI_eL, dN_eI, dL_eI, nS, nW, nJ, nL, nP, nO, nU, bas, wSh, wDr, jSh, lSh, lNm, pSh, pOp, oSh, oLb, oNm, uSh, uNm, uFr, uTo, wX, wY, wX2, wY2, jX, jY, lX, lY, pX, pY, par, pPt, rnk] using o'
    · have o' : obP g d a i := o
      show obP g (dRk d n x2) a i
      unfold obP at o' ⊢
      simpa [dRk, dN_eN, dL_eL, dI_eI, dL_eN, dI_eN, dN_eL, dI_eL, dN_eI, dL_eI, nS, nW, nJ, nL, nP, nO, nU, bas, wSh, wDr, jSh, lSh, lNm, pSh, pOp, oSh, oLb, oNm, uSh, uNm, uFr, uTo, wX, wY, wX2, wY2, jX, jY, lX, lY, pX, pY, par, pPt, rnk] using o'
    · have o' : obO g d a i := o
      show obO g (dRk d n x2) a i
      unfold obO at o' ⊢
      simpa [pr, dRk, dN_eN, dL_eL, dI_eI, dL_eN, dI_eN, dN_eL, dI_eL, dN_eI, dL_eI, nS, nW, nJ, nL, nP, nO, nU, bas, wSh, wDr, jSh, lSh, lNm, pSh, pOp, oSh, oLb, oNm, uSh, uNm, uFr, uTo, wX, wY, wX2, wY2, jX, jY, lX, lY, pX, pY, par, pPt, rnk] using o'
    · have o' : obU g d a i := o
      show obU g (dRk d n x2) a i
      unfold obU at o' ⊢
      simpa [dRk, dN_eN, dL_eL, dI_eI, dL_eN, dI_eN, dN_eL, dI_eL, dN_eI, dL_eI, nS, nW, nJ, nL, nP, nO, nU, bas, wSh, wDr, jSh, lSh, lNm, pSh, pOp, oSh, oLb, oNm, uSh, uNm, uFr, uTo, wX, wY, wX2, wY2, jX, jY, lX, lY, pX, pY, par, pPt, rnk] using o'
  have h10 : ∀ m, m < 1000 → gA h1 (A 10 0) m = rnk (dRk d n x2) m := by
    intro m hm
    rw [e1, gA_sA]
    by_cases y : m = n
    · rw [if_pos ⟨rfl, y⟩]; simp [dRk, dN_eN, dL_eL, dI_eI, dL_eN, dI_eN, dN_eL, dI_eL, dN_eI, dL_eI, nS, nW, nJ, nL, nP, nO, nU, bas, wSh, wDr, jSh, lSh, lNm, pSh, pOp, oSh, oLb, oNm, uSh, uNm, uFr, uTo, wX, wY, wX2, wY2, jX, jY, lX, lY, pX, pY, par, pPt, rnk, y]
    · rw [if_neg (fun q => y q.2), r4 m hm]; simp [dRk, dN_eN, dL_eL, dI_eI, dL_eN, dI_eN, dN_eL, dI_eL, dN_eI, dL_eI, nS, nW, nJ, nL, nP, nO, nU, bas, wSh, wDr, jSh, lSh, lNm, pSh, pOp, oSh, oLb, oNm, uSh, uNm, uFr, uTo, wX, wY, wX2, wY2, jX, jY, lX, lY, pX, pY, par, pPt, rnk, y]
  obtain ⟨C1, V1⟩ := C.set (d' := dRk d n x2) (r0 := 10) CB0.2.1 b3 b9 s1 (fun r i h3 h9 hi => obk h1 r _ i h3 h9 (obj_frame (s1 _ fun q => by rw [← q, C.tag h3 h9 hi] at t10; exact absurd (Prod.mk.inj t10).1 (by omega)) ((C.2.1 r h3 h9).2 i hi).1)) (fun r => by simp [ctr, dRk, dN_eN, dL_eL, dI_eI, dL_eN, dI_eN, dN_eL, dI_eL, dN_eI, dL_eI, nS, nW, nJ, nL, nP, nO, nU, bas, wSh, wDr, jSh, lSh, lNm, pSh, pOp, oSh, oLb, oNm, uSh, uNm, uFr, uTo, wX, wY, wX2, wY2, jX, jY, lX, lY, pX, pY, par, pPt, rnk]) ⟨by rw [e1, gT_sA]; exact r2, by rw [e1, gN_sA]; exact r3, h10⟩
  refine ⟨C1.x, Or.inl rfl, ?_⟩
  intro h2 e2
  have zb : (∀ w, nW (dRk d n x2) ≤ w → wDr (dRk d n x2) w = 0) ∧ ∀ q, nP (dRk d n x2) ≤ q → pOp (dRk d n x2) q = 0 := by
    refine ⟨fun w hw => ?_, fun q hq => ?_⟩
    · have := z.1 w (by simpa [dRk, dN_eN, dL_eL, dI_eI, dL_eN, dI_eN, dN_eL, dI_eL, dN_eI, dL_eI, nS, nW, nJ, nL, nP, nO, nU, bas, wSh, wDr, jSh, lSh, lNm, pSh, pOp, oSh, oLb, oNm, uSh, uNm, uFr, uTo, wX, wY, wX2, wY2, jX, jY, lX, lY, pX, pY, par, pPt, rnk] using hw)
      simpa [dRk, dN_eN, dL_eL, dI_eI, dL_eN, dI_eN, dN_eL, dI_eL, dN_eI, dL_eI, nS, nW, nJ, nL, nP, nO, nU, bas, wSh, wDr, jSh, lSh, lNm, pSh, pOp, oSh, oLb, oNm, uSh, uNm, uFr, uTo, wX, wY, wX2, wY2, jX, jY, lX, lY, pX, pY, par, pPt, rnk] using this
    · have := z.2 q (by simpa [dRk, dN_eN, dL_eL, dI_eI, dL_eN, dI_eN, dN_eL, dI_eL, dN_eI, dL_eI, nS, nW, nJ, nL, nP, nO, nU, bas, wSh, wDr, jSh, lSh, lNm, pSh, pOp, oSh, oLb, oNm, uSh, uNm, uFr, uTo, wX, wY, wX2, wY2, jX, jY, lX, lY, pX, pY, par, pPt, rnk] using hq)
      simpa [dRk, dN_eN, dL_eL, dI_eI, dL_eN, dI_eN, dN_eL, dI_eL, dN_eI, dL_eI, nS, nW, nJ, nL, nP, nO, nU, bas, wSh, wDr, jSh, lSh, lNm, pSh, pOp, oSh, oLb, oNm, uSh, uNm, uFr, uTo, wX, wY, wX2, wY2, jX, jY, lX, lY, pX, pY, par, pPt, rnk] using this
  obtain ⟨K2, m2⟩ := KS_eq K0 eqd_rk (WF_rk hd) zb (by simp [dRk, dN_eN, dL_eL, dI_eI, dL_eN, dI_eN, dN_eL, dI_eL, dN_eI, dL_eI, nS, nW, nJ, nL, nP, nO, nU, bas, wSh, wDr, jSh, lSh, lNm, pSh, pOp, oSh, oLb, oNm, uSh, uNm, uFr, uTo, wX, wY, wX2, wY2, jX, jY, lX, lY, pX, pY, par, pPt, rnk]) C1 V1 b3 b9 s1 e2
  exact k1 _ _ h2 A B (by rw [eo, cif_f ne]) (Or.inr rfl) K2 m2
/-! what is asked -/
theorem k_nets {post : Int32 → HS → Prop} (K : KS Z vx A B h d ch) (kk : post (nI (cnt d)) h) : wp_NJ_nets Z post h vx := by
  obtain ⟨hd, z, ⟨pm, hp, CB0⟩, I, F1, F2⟩ := K
  obtain ⟨le, nt, sz, W, ⟨d1, d2, d3, d4, d5⟩, -⟩ := CB0.2.2.2.1
  refine ⟨CB0.1.1.x, A 15 0, CB0.2.2.1.1.1, CB0.2.2.1.2.1, ?_⟩
  rw [d4]; exact kk
theorem k_changed {post : Int32 → HS → Prop} {k : Int32} (K : KS Z vx A B h d ch) (kk : ∀ r, Kth ch nI (cnt d) k r → post r h) : wp_NJ_changed Z post h vx k := by
  obtain ⟨hd, z, ⟨pm, hp, CB0⟩, I, F1, F2⟩ := K
  exact ⟨CB0.1.1.x, A 15 0, CB0.2.2.1.1.1, CB0.2.2.1.2.1, sp_changedNet hd CB0.2.2.1 CB0.2.2.2.1 I kk⟩
theorem k_netOf {post : Int32 → HS → Prop} {exc : Nat → HS → Prop} {x1 x2 : Int32} (K : KS Z vx A B h d ch) (k0 : (¬ ∃ p t, p < nP d ∧ x1 = nI p ∧ t < nS d ∧ bas d t = pSh d p ∧ x2 = nI (cp d t)) → exc 1 h) (k1 : ∀ p t, p < nP d → x1 = nI p → t < nS d → bas d t = pSh d p → x2 = nI (cp d t) → post (nI (nn d (16 * p + t))) h) : wp_NJ_netOf Z post exc h vx x1 x2 := by
  obtain ⟨hd, z, ⟨pm, hp, CB0⟩, I, F1, F2⟩ := K
  have hP := hd.1.2.2.2.2.1
  have hS := hd.1.1
  have C := CB0.1.1
  refine ⟨C.x, sp_needPin hd C (fun ip => ?_) (fun n => k0 fun ⟨p, t, a1, a2, _⟩ => n ⟨p, a1, a2⟩)⟩
  obtain ⟨p, hpp, rfl⟩ := id ip
  obtain ⟨o1, o2, o3, o4, o5, o6, o7⟩ := C.P hpp
  have ps := hd.2.2.2.2.2.1 p hpp
  refine ⟨fun w => k0 fun ⟨p', t, a1, a2, a3, a4, a5⟩ => ?_, fun w => ⟨C.x, A 1 5, C.p (by omega), C.lT (by omega), sp_get C.pi hpp ⟨cst o1, A 7 p, rfl, o1, C.x, ?_⟩⟩⟩
  · have := cp_lt hd a3
    exact nI_pos (n := cp d t) (by omega) (by rw [← a5]; exact w)
  rw [o2]
  refine sp_copiesOf hd C ⟨ps.1, ps.2.1⟩ ?_
  obtain ⟨cc, c1, rfl⟩ := nI_of w
  have cpl : cps d (pSh d p) ≤ nS d := cn_up _ _
  refine pk_lt cc (cps d (pSh d p)) (fun y => ?_) (fun y => k0 fun ⟨p', t, a1, a2, a3, a4, a5⟩ => ?_)
  · obtain ⟨j, j1, j2, j3⟩ := cn_ex (P := fun t => bas d t = pSh d p) (N := nS d) (k := cc) y
    have ec : cp d j = cc := by unfold cp; rw [j2, j3]
    have v : vR d (16 * p + j) := by
      unfold vR
      rw [show (16 * p + j) / 16 = p from by omega, show (16 * p + j) % 16 = j from by omega]
      exact ⟨hpp, j1, j2⟩
    have ek : ck d (16 * p + j) = 16 * p + cc := by
      unfold ck
      rw [show (16 * p + j) / 16 = p from by omega, show (16 * p + j) % 16 = j from by omega, ec]
    have cl := ck_lt hd v
    obtain ⟨le, nt, sz, W, ⟨d1, d2, d3, d4, d5⟩, w1, w2, w3, w4⟩ := CB0.2.2.2.1
    obtain ⟨r1, r2, r3⟩ := CB0.2.2.1.2.2.2.2.1
    refine ⟨C.x, A 15 0, CB0.2.2.1.1.1, CB0.2.2.1.2.1, ?_⟩
    unfold wp_NJ_pinNode
    rw [show (16 : Int32) = nI 16 from rfl, pk_mul, nI_add, Nat.mul_comm p 16, ← ek]
    refine ⟨A 15 3, r1, r2, by rw [r3]; exact pk_in (ck d (16 * p + j)) _ cl.1, ?_⟩
    rw [jr_cl (by omega), d2, (w2 _ (vR_lt hd v) v).2.1]
    exact k1 p j hpp rfl j1 j2 (by rw [ec])
  · rw [nI_eq (by omega) (by omega)] at a2
    subst a2
    have h1 := cp_lt hd a3
    rw [nI_eq (by omega) (by omega)] at a5
    have : cp d t < cps d (pSh d p) := by
      unfold cp cps
      rw [a4]
      exact cn_lt (P := fun t => bas d t = pSh d p) a3 a4
    omega
def NameR (d : DS) (n : Nat) (r : Int32) : Prop := (∃ m, m < 1000 ∧ r = nI m ∧ BestOf d n m) ∨ ((∀ m, ¬ hasNm d n m) ∧ ∃ k, fst d k ∧ nn d k = n ∧ r = -1 - nI (k / 16))
theorem NameR.uniq {n : Nat} {r r' : Int32} (a : NameR d n r) (b : NameR d n r') : r = r' := by
  rcases a with ⟨m, m1, m2, m3⟩ | ⟨m1, k, k1, k2, k3⟩ <;> rcases b with ⟨j, j1, j2, j3⟩ | ⟨j1, i, i1, i2, i3⟩
  · rw [m2, j2, Best_u m3 j3]
  · exact absurd m3.1 (j1 m)
  · exact absurd j3.1 (m1 j)
  · have : k = i := by
      have e := (lst_eq k1.1 i1.1).mpr ((nn_eq k1.1 i1.1).mp (by rw [k2, i2]))
      rw [lst_fst k1, lst_fst i1] at e; exact e
    rw [k3, i3, this]
theorem k_name {post : Int32 → HS → Prop} {exc : Nat → HS → Prop} {x1 : Int32} (K : KS Z vx A B h d ch) (k0 : (¬ ∃ n, n < cnt d ∧ x1 = nI n) → exc 1 h) (k1 : ∀ n r h', n < cnt d → x1 = nI n → NameR d n r → KS Z vx A B h' d ch → mv 20 100 A A B B h h' → post r h') : wp_NJ_name Z post exc h vx x1 := by
  obtain ⟨hd, z, ⟨pm, hp, CB0⟩, I, F1, F2⟩ := K
  have c9 : cnt d ≤ 960 := cn_up _ _
  have C := CB0.1.1
  have bx := C.1.2.1
  obtain ⟨le, nt, sz, W, ⟨d1, d2, d3, d4, d5⟩, -⟩ := CB0.2.2.2.1
  refine ⟨fun w => k0 fun ⟨n, a1, a2⟩ => nI_pos (n := n) (by omega) (by rw [← a2]; exact w), fun w => ⟨C.x, A 15 0, CB0.2.2.1.1.1, CB0.2.2.1.2.1, ?_⟩⟩
  rw [d4]
  obtain ⟨n, n1, rfl⟩ := nI_of w
  refine pk_lt n (cnt d) (fun y => ⟨C.x, sp_listNames hd hp CB0 F1 fun h1 C1 L1 f1 f2 v1 s1 g1 => ⟨C1.1.1.x, sp_bestName hd C1 L1 y fun r ob => ?_⟩⟩) (fun y => k0 fun ⟨m, a1, a2⟩ => ?_)
  rotate_left
  · rw [nI_eq (by omega) (by omega)] at a2; omega
  have nv : ∀ a, 1 ≤ (B a).1 → a ≠ vx := fun a ha e => by rw [e, bx] at ha; exact absurd ha (by decide)
  have K1 : KS Z vx A B h1 d ch := by
    refine ⟨hd, z, ⟨pm, hp, C1⟩, ?_, fun _ => L1, fun w => ?_⟩
    · have B5 := CB0.2.2.1.1.2.2 5 (by omega)
      unfold IC at I ⊢
      rw [(s1 (A 15 5) ⟨by rw [B5]; show 15 ≠ 14; decide, by rw [B5]; show 15 ≠ 16; decide, nv _ (by rw [B5]; show 1 ≤ 15; decide)⟩).A]; exact I
    · rw [f2 17 (by omega)] at w
      have := F2 w
      unfold RL at this ⊢
      rw [f2 16 (by omega), g1]; exact this
  have m1 : mv 20 100 A A B B h h1 := mv.of fun a g1 g2 => s1 a ⟨by omega, by omega, nv a (by omega)⟩
  rcases ob with ⟨o1, o2⟩ | ⟨m, m1', o1, o2⟩
  · rw [o1]
    obtain ⟨k, k1', k2, k3⟩ := cn_ex (P := fst d) (N := 960) y
    have nk : nn d k = n := by rw [nn_fst k2, k3]
    refine br_t rfl ⟨C1.1.1.x, A 15 0, C1.2.2.1.1.1, C1.2.2.1.2.1, ?_⟩
    rw [← nk]
    exact sp_leastPin hd C1.2.2.1 C1.2.2.2.1 k2 (k1 n _ h1 y rfl (Or.inr ⟨o2, k, k2, nk, rfl⟩) K1 m1)
  · rw [o1]
    exact br_f (nI_m1 (by omega)) (k1 n _ h1 y rfl (Or.inl ⟨m, m1', rfl, o2⟩) K1 m1)
theorem k_told {post : Int32 → HS → Prop} {k : Int32} (K : KS Z vx A B h d ch) (kk : ∀ r h', Kth (RP d) rv 960120 k r → KS Z vx A B h' d ch → mv 20 100 A A B B h h' → post r h') : wp_NJ_told Z post h vx k := by
  obtain ⟨hd, z, ⟨pm, hp, CB0⟩, I, F1, F2⟩ := K
  have bx := CB0.1.1.1.2.1
  have nv : ∀ a, 1 ≤ (B a).1 → a ≠ vx := fun a ha e => by rw [e, bx] at ha; exact absurd ha (by decide)
  refine sp_told hd hp CB0 F1 F2 fun h1 r Kr C1 L1 R1 v1 s1 => kk r h1 Kr ⟨hd, z, ⟨pm, hp, C1⟩, ?_, L1, fun _ => R1⟩ (mv.of fun a g1 g2 => s1 a ⟨by omega, by omega, nv a (by omega)⟩)
  have B5 := CB0.2.2.1.1.2.2 5 (by omega)
  unfold IC at I ⊢
  rw [(s1 (A 15 5) ⟨by rw [B5]; show 15 ≠ 14; decide, by rw [B5]; show 15 ≠ 16; decide, nv _ (by rw [B5]; show 1 ≤ 15; decide)⟩).A]; exact I
theorem k_same {post : Int32 → HS → Prop} (K : KS Z vx A B h d ch) (kk : ∀ h', KS Z vx A B h' d ch → mv 20 100 A A B B h h' → post 1 h') : wp_NJ_same Z post h vx := by
  obtain ⟨hd, z, ⟨pm, hp, CB0⟩, I, F1, F2⟩ := K
  have C := CB0.1.1
  have bx := C.1.2.1
  obtain ⟨X, V, T, N, Q, R⟩ := id CB0
  have B15 : ∀ i, i < 6 → (B (A 15 i)).1 = 15 := fun i hi => by rw [T.1.2.2 i hi]
  have n15 : ∀ a, (B a).1 ≠ 15 → ∀ i, i < 6 → a ≠ A 15 i := fun a ha i hi e => ha (by rw [e]; exact B15 i hi)
  refine ⟨C.x, A 15 0, T.1.1, T.2.1, sp_remember hd T N fun h1 T1 N1 L1 s1 => ?_⟩
  have c1 : ∀ a, (B a).1 ≠ 15 → ce h h1 a := fun a ha => s1 a (n15 a ha 2 (by omega))
  obtain ⟨X1, V1⟩ := X.go V (cvx.of (c1 vx (by rw [bx]; decide))) bx (mv.of fun a h1 h2 => c1 a (by omega))
  refine ⟨X1.1.x, sp_joinAnew hd X1 fun h2 X2 s2 => ⟨X2.1.x, ?_⟩⟩
  have i2 : ∀ i, i < 6 → ce h1 h2 (A 15 i) := fun i hi => s2 _ (by show (B (A 15 i)).1 ≠ 12 ∧ (B (A 15 i)).1 ≠ 14; rw [B15 i hi]; exact ⟨by decide, by decide⟩)
  have T2 : TS vx A B h2 := (T1.go (cvx.of (s2 vx (by show (B vx).1 ≠ 12 ∧ (B vx).1 ≠ 14; rw [bx]; exact ⟨by decide, by decide⟩))) bx (mv.s2 s2 (by omega))).1
  refine sp_countNets hd X2 T2 (N1.go i2 fun _ => rfl) (grows_of (Nat.le_refl _) (Nat.le_refl _) (fun _ _ => rfl) fun _ _ => rfl) fun h3 X3 T3 N3 s3 => ?_
  have c3 : ∀ a, (B a).1 ≠ 12 → (B a).1 ≠ 14 → (B a).1 ≠ 15 → ce h h3 a := fun a g1 g2 g3 => ce_tr (c1 a g3) (ce_tr (s2 a ⟨g1, g2⟩) (s3 a ⟨g2, n15 a g3 0 (by omega), n15 a g3 1 (by omega), n15 a g3 3 (by omega), n15 a g3 4 (by omega)⟩))
  have d3 : ∀ i, i < 6 → i ≠ 0 → i ≠ 1 → i ≠ 3 → i ≠ 4 → ce h1 h3 (A 15 i) := fun i hi a b e f => ce_tr (i2 i hi) (s3 _ ⟨by rw [B15 i hi]; decide, T.ne hi (by omega) a, T.ne hi (by omega) b, T.ne hi (by omega) e, T.ne hi (by omega) f⟩)
  have L3 : LB d A h3 := by
    unfold LB
    rw [(d3 2 (by omega) (by omega) (by omega) (by omega) (by omega)).A]; exact L1
  have cx := c3 vx (by rw [bx]; decide) (by rw [bx]; decide) (by rw [bx]; decide)
  have m13 : ∀ lo hi, (hi ≤ 11 ∨ 16 ≤ lo) → mv lo hi A A B B h h3 := fun lo hi w => mv.of fun a h1 h2 => c3 a (by omega) (by omega) (by omega)
  have c16 : ∀ i, i < 3 → ce h h3 (A 16 i) := fun i hi => c3 _ (by rw [CB0.b16 hi]; show 16 ≠ 12; decide) (by rw [CB0.b16 hi]; show 16 ≠ 14; decide) (by rw [CB0.b16 hi]; show 16 ≠ 15; decide)
  have K3 : KS Z vx A B h3 d ch := by
    refine ⟨hd, z, ⟨pm, hp, X3, (C.go V (cvx.of cx) bx (m13 1 10 (by omega))).2, T3, N3, Q.go C V (m13 1 10 (by omega)), (R.go (cvx.of cx) (m13 16 16 (by omega))).1⟩, ?_, fun w => ?_, fun w => ?_⟩
    · unfold IC at I ⊢
      rw [(d3 5 (by omega) (by omega) (by omega) (by omega) (by omega)).A, (s1 _ (T.ne (i := 5) (j := 2) (by omega) (by omega) (by omega))).A]; exact I
    · rw [cx.I] at w
      have := F1 w
      unfold NL at this ⊢
      rw [(c16 0 (by omega)).A, (c16 1 (by omega)).A]; exact this
    · rw [cx.I] at w
      have := F2 w
      unfold RL at this ⊢
      rw [(c16 2 (by omega)).A, cx.I]; exact this
  refine ⟨X3.1.x, A 15 0, T3.1.1, T3.2.1, sp_isAsRemembered hd T3 N3 L3 ⟨Or.inr rfl, kk h3 K3 (m13 20 100 (by omega))⟩⟩
end OPS6
