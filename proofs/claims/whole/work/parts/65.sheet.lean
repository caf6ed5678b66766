section SHX
variable {d : DS} {p : Int32} {s : Nat}
theorem sh_f (hd : WF d) (hs : s = nS d ∨ drw d s) : nS (dSh d p s) = nS d + 1 ∧ (∀ t, t < nS d → bas (dSh d p s) t = bas d t) ∧ bas (dSh d p s) (nS d) = s ∧ (∀ t, t < nS d → par (dSh d p s) t = par d t) ∧ par (dSh d p s) (nS d) = p := by
  refine ⟨by simp [dSh, dN_eN, dL_eL, dI_eI, dL_eN, dI_eN, dN_eL, dI_eL, dN_eI, dL_eI, nS, nW, nJ, nL, nP, nO, nU, bas, wSh, wDr, jSh, lSh, lNm, pSh, pOp, oSh, oLb, oNm, uSh, uNm, uFr, uTo, wX, wY, wX2, wY2, jX, jY, lX, lY, pX, pY, par, pPt, rnk], fun t ht => ?_, by simp [dSh, dN_eN, dL_eL, dI_eI, dL_eN, dI_eN, dN_eL, dI_eL, dN_eI, dL_eI, nS, nW, nJ, nL, nP, nO, nU, bas, wSh, wDr, jSh, lSh, lNm, pSh, pOp, oSh, oLb, oNm, uSh, uNm, uFr, uTo, wX, wY, wX2, wY2, jX, jY, lX, lY, pX, pY, par, pPt, rnk], fun t ht => ?_, by simp [dSh, dN_eN, dL_eL, dI_eI, dL_eN, dI_eN, dN_eL, dI_eL, dN_eI, dL_eI, nS, nW, nJ, nL, nP, nO, nU, bas, wSh, wDr, jSh, lSh, lNm, pSh, pOp, oSh, oLb, oNm, uSh, uNm, uFr, uTo, wX, wY, wX2, wY2, jX, jY, lX, lY, pX, pY, par, pPt, rnk]⟩
  · have : t ≠ dN d 0 0 := Nat.ne_of_lt ht
    simp [dSh, dN_eN, dL_eL, dI_eI, dL_eN, dI_eN, dN_eL, dI_eL, dN_eI, dL_eI, nS, nW, nJ, nL, nP, nO, nU, bas, wSh, wDr, jSh, lSh, lNm, pSh, pOp, oSh, oLb, oNm, uSh, uNm, uFr, uTo, wX, wY, wX2, wY2, jX, jY, lX, lY, pX, pY, par, pPt, rnk, this]
  · have : t ≠ dN d 0 0 := Nat.ne_of_lt ht
    simp [dSh, dN_eN, dL_eL, dI_eI, dL_eN, dI_eN, dN_eL, dI_eL, dN_eI, dL_eI, nS, nW, nJ, nL, nP, nO, nU, bas, wSh, wDr, jSh, lSh, lNm, pSh, pOp, oSh, oLb, oNm, uSh, uNm, uFr, uTo, wX, wY, wX2, wY2, jX, jY, lX, lY, pX, pY, par, pPt, rnk, this]
theorem sh_cps (hd : WF d) (hs : s = nS d ∨ drw d s) {i : Nat} : cps (dSh d p s) i = cps d i + (if s = i then 1 else 0) := by
  obtain ⟨f1, f2, f3, f4, f5⟩ := sh_f (p := p) hd hs
  unfold cps
  rw [f1]
  have e : cn (fun t => bas (dSh d p s) t = i) (nS d) = cn (fun t => bas d t = i) (nS d) := cn_congr fun t ht => by rw [f2 t ht]
  by_cases z : s = i
  · rw [cn_s (P := fun t => bas (dSh d p s) t = i) (by show bas _ _ = i; rw [f3]; exact z), e, if_pos z]
  · rw [cn_n (P := fun t => bas (dSh d p s) t = i) (by show ¬ bas _ _ = i; rw [f3]; exact z), e, if_neg z]; rfl
theorem sh_cp (hd : WF d) (hs : s = nS d ∨ drw d s) : (∀ t, t < nS d → cp (dSh d p s) t = cp d t) ∧ cp (dSh d p s) (nS d) = cps d s := by
  obtain ⟨f1, f2, f3, f4, f5⟩ := sh_f (p := p) hd hs
  refine ⟨fun t ht => cp_same fun u hu => f2 u (by omega), ?_⟩
  unfold cp cps
  rw [f3]
  exact cn_congr fun t ht => by rw [f2 t ht]
theorem cps_0 (hd : WF d) : cps d (nS d) = 0 := by
  unfold cps
  rw [cn_skip (m := 0) (by omega) fun t _ ht e => ?_, cn_0]
  have := (hd.2.1 t ht).1
  omega
theorem ob_sh (hd : WF d) (hs : s = nS d ∨ drw d s) {g : HS} {r a i : Nat} (h3 : 3 ≤ r) (h9 : r ≤ 9) (hr3 : r ≠ 3) (hi : i < ctr d r) (o : obj g d r a i) : obj g (dSh d p s) r a i := by
  have hr : r = 4 ∨ r = 5 ∨ r = 6 ∨ r = 7 ∨ r = 8 ∨ r = 9 := by omega
  rcases hr with rfl | rfl | rfl | rfl | rfl | rfl
  · have o' : obW g d a i := o
    show obW g (dSh d p s) a i
    unfold obW at o' ⊢
    simpa [dSh, dN_eN, dL_eL, dI_eI, dL_eN, dI_eN, dN_eL, dI_eL, dN_eI, dL_eI, nS, nW, nJ, nL, nP, nO, nU, bas, wSh, wDr, jSh, lSh, lNm, pSh, pOp, oSh, oLb, oNm, uSh, uNm, uFr, uTo, wX, wY, wX2, wY2, jX, jY, lX, lY, pX, pY, par, pPt, rnk] using o'
  · have o' : obJ g d a i := o
    show obJ g (dSh d p s) a i
    unfold obJ at o' ⊢
    simpa [dSh, dN_eN, dL_eL, dI_eI, dL_eN, dI_eN, dN_eL, dI_eL, dN_eI, dL_eI, nS, nW, nJ, nL, nP, nO, nU, bas, wSh, wDr, jSh, lSh, lNm, pSh, pOp, oSh, oLb, oNm, uSh, uNm, uFr, uTo, wX, wY, wX2, wY2, jX, jY, lX, lY, pX, pY, par, pPt, rnk] using o'
  · have o' : obL g d a i := o
    show obL g (dSh d p s) a i
    unfold obL at o' ⊢
    simpa [dSh, dN_eN, dL_eL, dI_eI, dL_eN, dI_eN, dN_eL, dI_eL, dN_eI, dL_eI, nS, nW, nJ, nL, nP, nO, nU, bas, wSh, wDr, jSh, lSh, lNm, pSh, pOp, oSh, oLb, oNm, uSh, uNm, uFr, uTo, wX, wY, wX2, wY2, jX, jY, lX, lY, pX, pY, par, pPt, rnk] using o'
  · have o' : obP g d a i := o
    show obP g (dSh d p s) a i
    unfold obP at o' ⊢
    simpa [dSh, dN_eN, dL_eL, dI_eI, dL_eN, dI_eN, dN_eL, dI_eL, dN_eI, dL_eI, nS, nW, nJ, nL, nP, nO, nU, bas, wSh, wDr, jSh, lSh, lNm, pSh, pOp, oSh, oLb, oNm, uSh, uNm, uFr, uTo, wX, wY, wX2, wY2, jX, jY, lX, lY, pX, pY, par, pPt, rnk] using o'
  · have o' : obO g d a i := o
    show obO g (dSh d p s) a i
    have ne : dN d 9 i ≠ dN d 0 0 := Nat.ne_of_lt (hd.2.2.2.2.2.2.1 i hi).1
    unfold obO at o' ⊢
    simpa [pr, dSh, dN_eN, dL_eL, dI_eI, dL_eN, dI_eN, dN_eL, dI_eL, dN_eI, dL_eI, nS, nW, nJ, nL, nP, nO, nU, bas, wSh, wDr, jSh, lSh, lNm, pSh, pOp, oSh, oLb, oNm, uSh, uNm, uFr, uTo, wX, wY, wX2, wY2, jX, jY, lX, lY, pX, pY, par, pPt, rnk, ne] using o'
  · have o' : obU g d a i := o
    show obU g (dSh d p s) a i
    unfold obU at o' ⊢
    simpa [dSh, dN_eN, dL_eL, dI_eI, dL_eN, dI_eN, dN_eL, dI_eL, dN_eI, dL_eI, nS, nW, nJ, nL, nP, nO, nU, bas, wSh, wDr, jSh, lSh, lNm, pSh, pOp, oSh, oLb, oNm, uSh, uNm, uFr, uTo, wX, wY, wX2, wY2, jX, jY, lX, lY, pX, pY, par, pPt, rnk] using o'
theorem ct_sh : ctr (dSh d p s) 3 = ctr d 3 + 1 ∧ (∀ r, 3 ≤ r → r ≤ 9 → r ≠ 3 → ctr (dSh d p s) r = ctr d r) ∧ ∀ m, rnk (dSh d p s) m = rnk d m := by
  refine ⟨by simp [ctr, dSh, dN_eN, dL_eL, dI_eI, dL_eN, dI_eN, dN_eL, dI_eL, dN_eI, dL_eI, nS, nW, nJ, nL, nP, nO, nU, bas, wSh, wDr, jSh, lSh, lNm, pSh, pOp, oSh, oLb, oNm, uSh, uNm, uFr, uTo, wX, wY, wX2, wY2, jX, jY, lX, lY, pX, pY, par, pPt, rnk], fun r h1 h2 h3 => ?_, fun m => by simp [dSh, dN_eN, dL_eL, dI_eI, dL_eN, dI_eN, dN_eL, dI_eL, dN_eI, dL_eI, nS, nW, nJ, nL, nP, nO, nU, bas, wSh, wDr, jSh, lSh, lNm, pSh, pOp, oSh, oLb, oNm, uSh, uNm, uFr, uTo, wX, wY, wX2, wY2, jX, jY, lX, lY, pX, pY, par, pPt, rnk]⟩
  have hr : r = 4 ∨ r = 5 ∨ r = 6 ∨ r = 7 ∨ r = 8 ∨ r = 9 := by omega
  rcases hr with rfl | rfl | rfl | rfl | rfl | rfl <;> simp [ctr, dSh, dN_eN, dL_eL, dI_eI, dL_eN, dI_eN, dN_eL, dI_eL, dN_eI, dL_eI, nS, nW, nJ, nL, nP, nO, nU, bas, wSh, wDr, jSh, lSh, lNm, pSh, pOp, oSh, oLb, oNm, uSh, uNm, uFr, uTo, wX, wY, wX2, wY2, jX, jY, lX, lY, pX, pY, par, pPt, rnk]
theorem gr_sh (hd : WF d) (hs : s = nS d ∨ drw d s) : grows d (dSh d p s) := by
  obtain ⟨f1, f2, f3, f4, f5⟩ := sh_f (p := p) hd hs
  exact grows_of (by simp [dSh, dN_eN, dL_eL, dI_eI, dL_eN, dI_eN, dN_eL, dI_eL, dN_eI, dL_eI, nS, nW, nJ, nL, nP, nO, nU, bas, wSh, wDr, jSh, lSh, lNm, pSh, pOp, oSh, oLb, oNm, uSh, uNm, uFr, uTo, wX, wY, wX2, wY2, jX, jY, lX, lY, pX, pY, par, pPt, rnk]) (by omega) (fun p hp => by simp [dSh, dN_eN, dL_eL, dI_eI, dL_eN, dI_eN, dN_eL, dI_eL, dN_eI, dL_eI, nS, nW, nJ, nL, nP, nO, nU, bas, wSh, wDr, jSh, lSh, lNm, pSh, pOp, oSh, oLb, oNm, uSh, uNm, uFr, uTo, wX, wY, wX2, wY2, jX, jY, lX, lY, pX, pY, par, pPt, rnk]) f2
theorem zb_sh (z : (∀ w, nW d ≤ w → wDr d w = 0) ∧ ∀ p, nP d ≤ p → pOp d p = 0) : (∀ w, nW (dSh d p s) ≤ w → wDr (dSh d p s) w = 0) ∧ ∀ q, nP (dSh d p s) ≤ q → pOp (dSh d p s) q = 0 := by
  refine ⟨fun w hw => ?_, fun q hq => ?_⟩
  · have := z.1 w (by simp [dSh, dN_eN, dL_eL, dI_eI, dL_eN, dI_eN, dN_eL, dI_eL, dN_eI, dL_eI, nS, nW, nJ, nL, nP, nO, nU, bas, wSh, wDr, jSh, lSh, lNm, pSh, pOp, oSh, oLb, oNm, uSh, uNm, uFr, uTo, wX, wY, wX2, wY2, jX, jY, lX, lY, pX, pY, par, pPt, rnk] at hw ⊢; omega)
    simpa [dSh, dN_eN, dL_eL, dI_eI, dL_eN, dI_eN, dN_eL, dI_eL, dN_eI, dL_eI, nS, nW, nJ, nL, nP, nO, nU, bas, wSh, wDr, jSh, lSh, lNm, pSh, pOp, oSh, oLb, oNm, uSh, uNm, uFr, uTo, wX, wY, wX2, wY2, jX, jY, lX, lY, pX, pY, par, pPt, rnk] using this
  · have := z.2 q (by simp [dSh, dN_eN, dL_eL, dI_eI, dL_eN, dI_eN, dN_eL, dI_eL, dN_eI, dL_eI, nS, nW, nJ, nL, nP, nO, nU, bas, wSh, wDr, jSh, lSh, lNm, pSh, pOp, oSh, oLb, oNm, uSh, uNm, uFr, uTo, wX, wY, wX2, wY2, jX, jY, lX, lY, pX, pY, par, pPt, rnk] at hq ⊢; omega)
    simpa [dSh, dN_eN, dL_eL, dI_eI, dL_eN, dI_eN, dN_eL, dI_eL, dN_eI, dL_eI, nS, nW, nJ, nL, nP, nO, nU, bas, wSh, wDr, jSh, lSh, lNm, pSh, pOp, oSh, oLb, oNm, uSh, uNm, uFr, uTo, wX, wY, wX2, wY2, jX, jY, lX, lY, pX, pY, par, pPt, rnk] using this
end SHX
section OPS4
variable {Z : Nat → Nat} {vx : Nat} {A A' : Nat → Nat → Nat} {B B' : Nat → Nat × Nat} {h h' : HS} {d c : DS} {ch : Nat → Prop} {pm : Nat → Nat}
theorem jl_up (n : Nat) : va_up (jl n) (1 + n) 900 = jl (n + 1) := by
  funext r
  unfold va_up jl
  by_cases e : r = 1 + n
  · subst e
    rw [if_pos rfl, if_neg (by omega), if_pos (by omega)]
  · rw [if_neg e]
    by_cases z : r = 0
    · rw [if_pos z, if_pos z]
    · rw [if_neg z, if_neg z]
      by_cases y : r ≤ n
      · rw [if_pos y, if_pos (by omega)]
      · rw [if_neg y, if_neg (by omega)]
theorem Rst.go {m : Nat} (R : Rst Z vx A B h c m pm) (C : CD Z vx A B h d) (v : cvx vx h h') (b : B' vx = (0, 0)) (m1 : mv 1 12 A A' B B' h h') (m2 : mv 15 100 A A' B B' h h') : Rst Z vx A' B' h' c m pm := by
  obtain ⟨V, T, N, Q, M⟩ := R
  obtain ⟨T', t1, t2⟩ := T.go v b (m2.sub (by omega) (by omega))
  exact ⟨(C.go V v b (m1.sub (by omega) (by omega))).2, T', N.go t1 t2, Q.go C V (m1.sub (by omega) (by omega)), (M.go v (m2.sub (by omega) (by omega))).1⟩
theorem sp_Sheet_init {post : HS → Prop} {q : Nat} {x1 x2 x3 x4 : Int32} (t : gT h q = 21) (kk : ∀ h', gT h' q = 21 → gI h' 500 q = x1 → gI h' 501 q = x2 → gI h' 502 q = x3 → gI h' 503 q = x4 → gI h' 504 q = 1 → sm (fun a => a ≠ q) h h' → post h') : wp_Sheet_init Z post h q x1 x2 x3 x4 := by
  refine ⟨t, ?_⟩
  intro h2 e2
  refine ⟨by rw [e2]; exact t, ?_⟩
  intro h4 e4
  refine ⟨by rw [e4, e2]; exact t, ?_⟩
  intro h6 e6
  refine ⟨by rw [e6, e4, e2]; exact t, ?_⟩
  intro h8 e8
  refine ⟨by rw [e8, e6, e4, e2]; exact t, ?_⟩
  intro h10 e10
  refine kk h10 ?_ ?_ ?_ ?_ ?_ ?_ ?_
  · rw [e10, e8, e6, e4, e2]; exact t
  · simp [e10, e8, e6, e4, e2, gI_sI]
  · simp [e10, e8, e6, e4, e2, gI_sI]
  · simp [e10, e8, e6, e4, e2, gI_sI]
  · simp [e10, e8, e6, e4, e2, gI_sI]
  · simp [e10, e8, e6, e4, e2, gI_sI]
  · intro u hu
    rw [e10, e8, e6, e4, e2]
    exact ce_tr (ce_sI hu) (ce_tr (ce_sI hu) (ce_tr (ce_sI hu) (ce_tr (ce_sI hu) (ce_sI hu))))
/-- the sheet is made: what follows -/
theorem sp_sheetEnd {post : Int32 → HS → Prop} {exc : Nat → HS → Prop} {p : Int32} {s q : Nat} {h2 : HS} (K : KS Z vx A B h d ch) (hp1 : p = -1 ∨ ∃ q, q < nS d ∧ p = nI q) (hs : s = nS d ∨ drw d s) (hn : nS d < 16) (hq : gT h q = 0) (s12 : ∀ a, gT h a ≠ 0 → (B a).1 ≠ 3 → ce h h2 a) (ob : obS h2 (dSh d p s) q (nS d)) (obs : ∀ i, i < nS d → obS h2 (dSh d p s) (A 3 i) i)
    (kk : ∀ h' A' B', KS Z vx A' B' h' (dSh d p s) (Chg d (dSh d p s)) → mv 20 100 A A' B B' h h' → post (nI (nS d)) h') : wj_NJ_sheet_62 Z post exc vx (nI (nS d)) (some q) h2 := by
  obtain ⟨hd, z, ⟨pm, hp, CB0⟩, I, F1, F2⟩ := K
  have C := CB0.1.1
  have b0 := C.1.2.1
  have cx := s12 vx (by rw [C.x]; decide) (by rw [b0]; show 0 ≠ 3; decide)
  have cl := s12 (A 1 0) (by rw [C.lT (by omega)]; decide) (by rw [(C.1.2.2 0 (by omega)).2.1]; show 1 ≠ 3; decide)
  refine ⟨by rw [cx.T]; exact C.x, A 1 0, by rw [cx.R]; exact C.p (by omega), by rw [cl.T]; exact C.lT (by omega), ?_⟩
  obtain ⟨ct1, ct2, ct3⟩ := ct_sh (d := d) (p := p) (s := s)
  refine sp_addObj (r := 3) C CB0.2.1 (by omega) (by omega) rfl (by show nS d < 100; omega) hq (fun a ha w => s12 a ha (w rfl)) ob obs (fun r' h3 h9 hr => ⟨ct2 r' h3 h9 hr, fun i g a hi o => ob_sh hd hs h3 h9 hr hi o⟩) ct1 ct3 fun h3 A3 B3 C3 V3 m3 Q3 v3 b3 a3 cx3 => ?_
  have hd' : WF (dSh d p s) := WF_sh hd hp1 hs hn
  obtain ⟨f1, f2, f3, f4, f5⟩ := sh_f (p := p) hd hs
  have nL' : nL (dSh d p s) = nL d := by simp [dSh, dN_eN, dL_eL, dI_eI, dL_eN, dI_eN, dN_eL, dI_eL, dN_eI, dL_eI, nS, nW, nJ, nL, nP, nO, nU, bas, wSh, wDr, jSh, lSh, lNm, pSh, pOp, oSh, oLb, oNm, uSh, uNm, uFr, uTo, wX, wY, wX2, wY2, jX, jY, lX, lY, pX, pY, par, pPt, rnk]
  have nU' : nU (dSh d p s) = nU d := by simp [dSh, dN_eN, dL_eL, dI_eI, dL_eN, dI_eN, dN_eL, dI_eL, dN_eI, dL_eI, nS, nW, nJ, nL, nP, nO, nU, bas, wSh, wDr, jSh, lSh, lNm, pSh, pOp, oSh, oLb, oNm, uSh, uNm, uFr, uTo, wX, wY, wX2, wY2, jX, jY, lX, lY, pX, pY, par, pPt, rnk]
  have lN' : ∀ l, lNm (dSh d p s) l = lNm d l := fun l => by simp [dSh, dN_eN, dL_eL, dI_eI, dL_eN, dI_eN, dN_eL, dI_eL, dN_eI, dL_eI, nS, nW, nJ, nL, nP, nO, nU, bas, wSh, wDr, jSh, lSh, lNm, pSh, pOp, oSh, oLb, oNm, uSh, uNm, uFr, uTo, wX, wY, wX2, wY2, jX, jY, lX, lY, pX, pY, par, pPt, rnk]
  have uS' : ∀ b, uSh (dSh d p s) b = uSh d b := fun b => by simp [dSh, dN_eN, dL_eL, dI_eI, dL_eN, dI_eN, dN_eL, dI_eL, dN_eI, dL_eI, nS, nW, nJ, nL, nP, nO, nU, bas, wSh, wDr, jSh, lSh, lNm, pSh, pOp, oSh, oLb, oNm, uSh, uNm, uFr, uTo, wX, wY, wX2, wY2, jX, jY, lX, lY, pX, pY, par, pPt, rnk]
  have R3 : Rst Z vx A3 B3 h3 d (nL (dSh d p s)) pm := Rst.ad CB0 hp nL' v3 b3 m3 V3 Q3
  have hp' : PM (dSh d p s) pm := by
    unfold PM; rw [nL']; simp only [lN']; exact hp
  have zb := zb_sh (p := p) (s := s) z
  have gr := gr_sh (p := p) hd hs
  have tt : TT (dSh d p s) = TT d := TT_sh p s
  obtain ⟨-, ⟨lt, T0, L0⟩, lj, J0, M0⟩ := id CB0.1
  obtain ⟨w1, w2⟩ := SC_sh hd hd' L0
  have T3 := T0.go v3 b3 (m3.sub (by omega) (by omega))
  have J3 := J0.go v3 b3 (m3.sub (by omega) (by omega))
  have aq : A3 3 (nS d) = q := a3.1
  generalize dSh d p s = d' at *
  refine ⟨C3.x, A3 13 0, J3.1, J3.2.2.1.1, ?_⟩
  rw [show (1 : Int32) = nI 1 from rfl, nI_add, show (900 : Int32) = nI 900 from rfl]
  refine sp_addRow J3.2.2 (r := 1 + nS d) (by omega) (by unfold jl; rw [if_neg (by omega), if_neg (by omega)]) (by omega) fun h4 q4 hq4 J4 s4 => ?_
  rw [jl_up] at J4
  obtain ⟨A4, hA⟩ : ∃ A' : Nat → Nat → Nat, ∀ r i, A' r i = if r = 14 ∧ i = 1 + nS d then q4 else A3 r i := ⟨fun r i => if r = 14 ∧ i = 1 + nS d then q4 else A3 r i, fun _ _ => rfl⟩
  obtain ⟨B4, hB⟩ : ∃ B' : Nat → Nat × Nat, ∀ a, B' a = if a = q4 then (14, 1 + nS d) else B3 a := ⟨fun a => if a = q4 then (14, 1 + nS d) else B3 a, fun _ => rfl⟩
  have u13 : B3 (A3 13 1) = (13, 1) := J3.2.1.2.2.1
  have mm : ∀ lo hi, (hi ≤ 12 ∨ 15 ≤ lo) → mv lo hi A3 A4 B3 B4 h3 h4 := by
    intro lo hi w
    refine ⟨fun a g1 g2 g3 => ?_, fun r i g1 g2 => by rw [hA, if_neg (fun y => by omega)]⟩
    have aq4 : a ≠ q4 := fun e => g3 (by rw [e]; exact hq4)
    have a13 : a ≠ A3 13 1 := fun e => by
      have : (B3 a).1 = 13 := by rw [e, u13]
      omega
    exact ⟨s4 a ⟨a13, aq4⟩, by rw [hB, if_neg aq4]⟩
  have xq : vx ≠ q4 := fun e => by have := C3.x; rw [e, hq4] at this; omega
  have x13 : vx ≠ A3 13 1 := fun e => by rw [e, u13] at b3; cases b3
  have cx4 := s4 vx ⟨x13, xq⟩
  have v4 : cvx vx h3 h4 := cvx.of cx4
  have b4 : B4 vx = (0, 0) := by rw [hB, if_neg xq]; exact b3
  obtain ⟨C4, V4⟩ := C3.go V3 v4 b4 (mm 1 10 (by omega))
  have T4 := T3.go v4 b4 (mm 11 12 (by omega))
  have R4 := R3.go C3 v4 b4 (mm 1 12 (by omega)) (mm 15 100 (by omega))
  have a14 : A4 14 = va_up (A3 14) (1 + nS d) q4 := by
    funext i
    rw [hA]
    by_cases y : i = 1 + nS d
    · rw [if_pos ⟨rfl, y⟩, y, va_up_self]
    · rw [if_neg (fun w => y w.2), va_up_ne _ _ y]
  have J4' : JJ vx A4 B4 h4 (nS d') lj := by
    unfold JJ
    rw [a14, hA 13 0, hA 13 1, if_neg (by omega), if_neg (by omega), f1]
    have o13 : A3 13 0 ≠ q4 := fun e => by have := J3.2.2.1.1; rw [e, hq4] at this; omega
    have o131 : A3 13 1 ≠ q4 := fun e => by have := J3.2.2.1.2.2.1; rw [e, hq4] at this; omega
    refine ⟨by rw [cx4.R]; exact J3.1, ⟨b4, by rw [hB, if_neg o13]; exact J3.2.1.2.1, by rw [hB, if_neg o131]; exact u13, fun r hr => ?_⟩, J4⟩
    by_cases y : r = 1 + nS d
    · rw [y, va_up_self, hB, if_pos rfl]
    · rw [va_up_ne _ _ y, hB, if_neg]
      · exact J3.2.1.2.2.2 r hr
      · intro e
        have := (J3.2.2.1.2.2.2.2.2.1 r hr).2.1
        rw [e, hq4] at this; omega
  have X4 : XJ Z vx A4 B4 h4 d' lt (SC d) := ⟨C4, T4, lj, J4', M0⟩
  have L4 : LD lt (TT d') := by rw [tt]; exact L0
  have aq4 : A4 3 (nS d) = q := by rw [hA, if_neg (by omega)]; exact aq
  rw [← aq4]
  refine ⟨C4.x, sp_spreadOn hd' (fun a ha => ld_sp hd' L4 ha) X4 (by omega) fun h5 X5 s5 => ⟨X5.1.x, sp_joinBusesOn hd' X5 (by omega) fun h6 X6 s6 => ⟨X6.1.x, ?_⟩⟩⟩
  rw [nU', f3] at X6
  simp only [uS'] at X6
  obtain ⟨C6, T6, J6⟩ := X6.mo w1 w2
  refine KS_fin hd hd' zb gr hp' ⟨C6, ⟨lt, T6, L4⟩, J6⟩ (R4.s2 C4 (sm_tr s5 s6)) fun h7 K7 m7 => kk h7 A4 B4 K7 ?_
  exact (m3.sub (by omega) (by omega)).tr (((mm 20 100 (by omega))).tr ((mv.s2 (sm_tr s5 s6) (by omega)).tr m7))
theorem k_sheet {post : Int32 → HS → Prop} {exc : Nat → HS → Prop} {x1 x2 : Int32} (K : KS Z vx A B h d ch) (k0 : ∀ n, o_sheet (d, ch) x1 x2 = (n, 0, (d, ch)) → n = 1 ∨ n = 2 → exc n h) (k1 : ∀ r s h' A' B', o_sheet (d, ch) x1 x2 = (0, r, s) → KS Z vx A' B' h' s.1 s.2 → mv 20 100 A A' B B' h h' → post r h') : wp_NJ_sheet Z post exc h vx x1 x2 := by
  have K0 := K
  obtain ⟨hd, z, ⟨pm, hp, CB0⟩, I, F1, F2⟩ := K
  have hS := hd.1.1
  have C := CB0.1.1
  have main : (x1 = -1 ∨ isS d x1) → (x2 = -1 ∨ isD d x2) → wj_NJ_sheet_20 Z post exc vx x1 x2 h := by
    intro q1 q2
    have q3 : x2 = -1 ∨ isS d x2 := q2.elim Or.inl fun ⟨s, s1, s2⟩ => Or.inr ⟨s, s1.1, s2⟩
    have eo : o_sheet (d, ch) x1 x2 = cif (nS d = 16) (0, -1, (d, ch)) (0, nI (nS d), nx (d, ch) (dSh d x1 (cif (x2 = -1) (nS d) (tn x2)))) := by
      unfold o_sheet
      rw [cif_t ⟨q1, q3⟩, cif_t q2]
    refine ⟨C.x, A 1 0, C.p (by omega), C.lT (by omega), sp_size C.sh (pk_lt (nS d) 16 (fun w => ?_) (fun w => ?_))⟩
    rotate_left
    · exact k1 _ _ h A B (by rw [eo, cif_t (by omega)]) K0 mv.rf
    rw [cif_f (by omega)] at eo
    refine ⟨fun ne => ⟨C.x, ?_⟩, fun e => ?_⟩
    · rcases q2 with y | ⟨s, hs, es⟩
      · exact absurd y ne
      subst es
      have sl := hs.1
      rw [cif_f ne, tn_nI (by omega)] at eo
      obtain ⟨o1, o2, o3, o4, o5, o6⟩ := C.S hs.1
      have o6' := o6 hs.2
      refine ⟨C.x, A 1 0, C.p (by omega), C.lT (by omega), sp_get C.sh hs.1 ⟨cst o1, ?_⟩⟩
      intro q hq
      intro h1 e1
      have t1 : gT h1 q = 21 := by rw [e1, gT_nH2, if_pos rfl]
      have s1 : ∀ a, gT h a ≠ 0 → ce h h1 a := fun a ha => by rw [e1]; exact ce_nH fun w => ha (by rw [w]; exact hq)
      clear e1
      have c3 := s1 (A 3 s) (by rw [o1]; decide)
      refine ⟨A 3 s, rfl, by rw [c3.T]; exact o1, ?_⟩
      rw [c3.I, o6']
      refine sp_Sheet_init t1 fun h2 i1 i2 i3 i4 i5 i6 s2 => ?_
      have s12 : ∀ a, gT h a ≠ 0 → ce h h2 a := fun a ha => ce_tr (s1 a ha) (s2 a fun w => ha (by rw [w]; exact hq))
      have c32 := s12 (A 3 s) (by rw [o1]; decide)
      refine ⟨A 3 s, rfl, by rw [c32.T]; exact o1, A 3 s, rfl, by rw [c32.T]; exact o1, ?_⟩
      rw [c32.I, o6', nI_1]
      intro h3 e3
      have nq : A 3 s ≠ q := fun e => by rw [e, hq] at o1; omega
      obtain ⟨f1, f2, f3, f4, f5⟩ := sh_f (p := x1) hd (Or.inr hs)
      obtain ⟨g1, g2⟩ := sh_cp (p := x1) hd (Or.inr hs)
      have cq : ce h2 h3 q := by rw [e3]; exact ce_sI (Ne.symm nq)
      refine sp_sheetEnd (exc := exc) K0 (q1.elim Or.inl fun ⟨s, s1, s2⟩ => Or.inr ⟨s, s1, s2⟩) (Or.inr hs) w hq (fun a ha nb => ce_tr (s12 a ha) ?_) ⟨by rw [cq.T]; exact i1, by rw [cq.I]; exact i2, by rw [cq.I, f5]; exact i3, by rw [cq.I, f3]; exact i4, by rw [cq.I, g2]; exact i5, fun e => ?_⟩ (fun i hi => ?_) fun h' A' B' K' m' => k1 _ _ h' A' B' eo K' m'
      · rw [e3]
        refine ce_sI fun e => nb ?_
        rw [e, C.tag (r := 3) (by omega) (by omega) hs.1]
      · rw [f3] at e; omega
      · obtain ⟨v1, v2, v3, v4, v5, v6⟩ := C.S hi
        have ci := s12 (A 3 i) (by rw [v1]; decide)
        have T3 : gT h3 (A 3 i) = 21 := by rw [e3, gT_sI, ci.T]; exact v1
        have I3 : ∀ f, f ≠ 504 → gI h3 f (A 3 i) = gI h f (A 3 i) := fun f hf => by rw [e3, gI_sI, if_neg (fun w => hf w.1), ci.I]
        refine ⟨T3, by rw [I3 _ (by omega)]; exact v2, by rw [I3 _ (by omega), f4 i hi]; exact v3, by rw [I3 _ (by omega), f2 i hi]; exact v4, by rw [I3 _ (by omega), g1 i hi]; exact v5, fun e => ?_⟩
        rw [f2 i hi] at e
        rw [sh_cps hd (Or.inr hs), e3, gI_sI]
        by_cases y : s = i
        · subst y; rw [if_pos ⟨rfl, rfl⟩, if_pos rfl]
        · rw [if_neg, if_neg y, ci.I]
          · exact v6 e
          · rintro ⟨-, w⟩
            have a1 := C.tag (r := 3) (i := i) (by omega) (by omega) hi
            rw [w, C.tag (r := 3) (by omega) (by omega) hs.1] at a1
            exact y (Prod.mk.inj a1).2
    · intro q hq
      intro h1 e1
      rw [cif_t e] at eo
      have t1 : gT h1 q = 21 := by rw [e1, gT_nH2, if_pos rfl]
      have s1 : ∀ a, gT h a ≠ 0 → ce h h1 a := fun a ha => by rw [e1]; exact ce_nH fun w => ha (by rw [w]; exact hq)
      clear e1
      refine sp_Sheet_init t1 fun h2 i1 i2 i3 i4 i5 i6 s2 => ?_
      have s12 : ∀ a, gT h a ≠ 0 → ce h h2 a := fun a ha => ce_tr (s1 a ha) (s2 a fun w => ha (by rw [w]; exact hq))
      obtain ⟨f1, f2, f3, f4, f5⟩ := sh_f (p := x1) hd (Or.inl rfl)
      obtain ⟨g1, g2⟩ := sh_cp (p := x1) hd (Or.inl rfl)
      refine sp_sheetEnd (exc := exc) K0 (q1.elim Or.inl fun ⟨s, s1, s2⟩ => Or.inr ⟨s, s1, s2⟩) (Or.inl rfl) w hq (fun a ha nb => s12 a ha) ⟨i1, i2, by rw [f5]; exact i3, by rw [f3]; exact i4, by rw [g2, cps_0 hd]; exact i5, fun _ => ?_⟩ (fun i hi => ?_) fun h' A' B' K' m' => k1 _ _ h' A' B' eo K' m'
      · rw [sh_cps hd (Or.inl rfl), cps_0 hd, if_pos rfl]; exact i6
      · obtain ⟨v1, v2, v3, v4, v5, v6⟩ := C.S hi
        have ci := s12 (A 3 i) (by rw [v1]; decide)
        refine ⟨by rw [ci.T]; exact v1, by rw [ci.I]; exact v2, by rw [ci.I, f4 i hi]; exact v3, by rw [ci.I, f2 i hi]; exact v4, by rw [ci.I, g1 i hi]; exact v5, fun e => ?_⟩
        rw [f2 i hi] at e
        rw [sh_cps hd (Or.inl rfl), if_neg (by omega), ci.I]
        exact v6 e
  have second : (x1 = -1 ∨ isS d x1) → wj_NJ_sheet_10 Z post exc vx x1 x2 h := by
    intro q1
    refine ⟨fun e => main q1 (Or.inl e), fun ne => ⟨C.x, sp_needDrawn hd C (fun i => main q1 (Or.inr i)) (fun n => k0 1 ?_ (Or.inl rfl)) (fun ⟨s, s1, s2, s3⟩ => k0 2 ?_ (Or.inr rfl))⟩⟩
    · unfold o_sheet
      rw [cif_f]
      rintro ⟨-, y | y⟩
      · exact ne y
      · exact n y
    · unfold o_sheet
      rw [cif_t ⟨q1, Or.inr ⟨s, s1, s3⟩⟩, cif_f]
      rintro (y | ⟨t, t1, t2⟩)
      · exact ne y
      · have : t < nS d := t1.1
        rw [s3, nI_eq (by omega) (by omega)] at t2
        subst t2; exact s2 t1.2
  refine ⟨fun e => second (Or.inl e), fun ne => ⟨C.x, sp_needSheet hd C (fun i => second (Or.inr i)) (fun n => k0 1 ?_ (Or.inl rfl))⟩⟩
  unfold o_sheet
  rw [cif_f]
  rintro ⟨y | y, -⟩
  · exact ne y
  · exact n y
end OPS4
