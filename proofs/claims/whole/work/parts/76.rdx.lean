section RDX
variable {vm : Nat} {R : Nat → Nat} {B : Nat → Nat × Nat} {h h' : HS} {d : DS}
theorem RS.wL (S : RS vm R B h) {f i : Nat} {v : Int64} (hf : rK f ≠ 0) (e : h' = sL h (R f) i v) : RS vm R B h' ∧ sm20 B h h' ∧ (∀ g, gI h' g vm = gI h g vm) ∧ (∀ g, g ≠ f → rK g ≠ 0 → ce h h' (R g)) ∧ (∀ j, gL h' (R f) j = if j = i then v else gL h (R f) j) ∧ gA h' (R f) = gA h (R f) := by
  refine ⟨?_, ?_, fun g => by rw [e, gI_sL], fun g hg hk => by rw [e]; exact ce_sL (S.ne hk hf hg), fun j => ?_, by rw [e, gA_sL]⟩
  · rw [e]; unfold RS at S ⊢
    simp only [gR_sL, gT_sL, gN_sL]; exact S
  · rw [e]; exact fun a ha => ce_sL fun w => ha (by rw [w, (S.2.2 f hf).2.1])
  · rw [e, gL_sL]
    by_cases w : j = i
    · rw [if_pos ⟨rfl, w⟩, if_pos w]
    · rw [if_neg (fun y => w y.2), if_neg w]
theorem rd_sh (p : Int32) (s : Nat) (D : RD vm R h d) (I : ∀ g, 801 ≤ g → g ≤ 822 → gI h' g vm = if g = 801 then nI (nS d + 1) else gI h g vm) (A : ∀ g, 802 ≤ g → g ≤ 824 → rK g ≠ 0 → g ≠ 802 → g ≠ 803 → gA h' (R g) = gA h (R g) ∧ gL h' (R g) = gL h (R g)) (x2 : ∀ j, gA h' (R 802) j = if j = nS d then p else gA h (R 802) j) (x3 : ∀ j, gA h' (R 803) j = if j = nS d then nI s else gA h (R 803) j) : RD vm R h' (dSh d p s) := by
  refine ⟨⟨?_, ?_, ?_, ?_, ?_, ?_, ?_⟩, ?_, ⟨?_, ?_⟩, ?_, ?_, ⟨?_, ?_⟩, ?_, ?_, ?_⟩
  · rw [I 801 (by omega) (by omega), if_pos rfl]; simp [dSh, dN_eN, dL_eL, dI_eI, dL_eN, dI_eN, dN_eL, dI_eL, dN_eI, dL_eI, nS, nW, nJ, nL, nP, nO, nU, bas, wSh, wDr, jSh, lSh, lNm, pSh, pOp, oSh, oLb, oNm, uSh, uNm, uFr, uTo, wX, wY, wX2, wY2, jX, jY, lX, lY, pX, pY, par, pPt, rnk]
  · rw [I 804 (by omega) (by omega), if_neg (by omega), D.1.2.1]; simp [dSh, dN_eN, dL_eL, dI_eI, dL_eN, dI_eN, dN_eL, dI_eL, dN_eI, dL_eI, nS, nW, nJ, nL, nP, nO, nU, bas, wSh, wDr, jSh, lSh, lNm, pSh, pOp, oSh, oLb, oNm, uSh, uNm, uFr, uTo, wX, wY, wX2, wY2, jX, jY, lX, lY, pX, pY, par, pPt, rnk]
  · rw [I 808 (by omega) (by omega), if_neg (by omega), D.1.2.2.1]; simp [dSh, dN_eN, dL_eL, dI_eI, dL_eN, dI_eN, dN_eL, dI_eL, dN_eI, dL_eI, nS, nW, nJ, nL, nP, nO, nU, bas, wSh, wDr, jSh, lSh, lNm, pSh, pOp, oSh, oLb, oNm, uSh, uNm, uFr, uTo, wX, wY, wX2, wY2, jX, jY, lX, lY, pX, pY, par, pPt, rnk]
  · rw [I 811 (by omega) (by omega), if_neg (by omega), D.1.2.2.2.1]; simp [dSh, dN_eN, dL_eL, dI_eI, dL_eN, dI_eN, dN_eL, dI_eL, dN_eI, dL_eI, nS, nW, nJ, nL, nP, nO, nU, bas, wSh, wDr, jSh, lSh, lNm, pSh, pOp, oSh, oLb, oNm, uSh, uNm, uFr, uTo, wX, wY, wX2, wY2, jX, jY, lX, lY, pX, pY, par, pPt, rnk]
  · rw [I 815 (by omega) (by omega), if_neg (by omega), D.1.2.2.2.2.1]; simp [dSh, dN_eN, dL_eL, dI_eI, dL_eN, dI_eN, dN_eL, dI_eL, dN_eI, dL_eI, nS, nW, nJ, nL, nP, nO, nU, bas, wSh, wDr, jSh, lSh, lNm, pSh, pOp, oSh, oLb, oNm, uSh, uNm, uFr, uTo, wX, wY, wX2, wY2, jX, jY, lX, lY, pX, pY, par, pPt, rnk]
  · rw [I 820 (by omega) (by omega), if_neg (by omega), D.1.2.2.2.2.2.1]; simp [dSh, dN_eN, dL_eL, dI_eI, dL_eN, dI_eN, dN_eL, dI_eL, dN_eI, dL_eI, nS, nW, nJ, nL, nP, nO, nU, bas, wSh, wDr, jSh, lSh, lNm, pSh, pOp, oSh, oLb, oNm, uSh, uNm, uFr, uTo, wX, wY, wX2, wY2, jX, jY, lX, lY, pX, pY, par, pPt, rnk]
  · rw [I 822 (by omega) (by omega), if_neg (by omega), D.1.2.2.2.2.2.2]; simp [dSh, dN_eN, dL_eL, dI_eI, dL_eN, dI_eN, dN_eL, dI_eL, dN_eI, dL_eI, nS, nW, nJ, nL, nP, nO, nU, bas, wSh, wDr, jSh, lSh, lNm, pSh, pOp, oSh, oLb, oNm, uSh, uNm, uFr, uTo, wX, wY, wX2, wY2, jX, jY, lX, lY, pX, pY, par, pPt, rnk]
  · intro t_ h_
    have h1_ : t_ < nS d + 1 := by simpa [dSh, dN_eN, dL_eL, dI_eI, dL_eN, dI_eN, dN_eL, dI_eL, dN_eI, dL_eI, nS, nW, nJ, nL, nP, nO, nU, bas, wSh, wDr, jSh, lSh, lNm, pSh, pOp, oSh, oLb, oNm, uSh, uNm, uFr, uTo, wX, wY, wX2, wY2, jX, jY, lX, lY, pX, pY, par, pPt, rnk] using h_
    by_cases e_ : t_ = nS d
    · subst e_
      rw [x2, x3]
      simp [dSh, dN_eN, dL_eL, dI_eI, dL_eN, dI_eN, dN_eL, dI_eL, dN_eI, dL_eI, nS, nW, nJ, nL, nP, nO, nU, bas, wSh, wDr, jSh, lSh, lNm, pSh, pOp, oSh, oLb, oNm, uSh, uNm, uFr, uTo, wX, wY, wX2, wY2, jX, jY, lX, lY, pX, pY, par, pPt, rnk]
    · have lt_ : t_ < nS d := by omega
      have o_ := D.2.1 t_ lt_
      have ne_ : t_ ≠ dN d 0 0 := e_
      rw [x2, x3]
      simp only [nS, nW, nJ, nL, nP, nO, nU, bas, wSh, wDr, jSh, lSh, lNm, pSh, pOp, oSh, oLb, oNm, uSh, uNm, uFr, uTo, wX, wY, wX2, wY2, jX, jY, lX, lY, pX, pY, par, pPt, rnk] at e_ lt_ ⊢
      repeat rw [if_neg (by omega)]
      simpa [dSh, dN_eN, dL_eL, dI_eI, dL_eN, dI_eN, dN_eL, dI_eL, dN_eI, dL_eI, nS, nW, nJ, nL, nP, nO, nU, bas, wSh, wDr, jSh, lSh, lNm, pSh, pOp, oSh, oLb, oNm, uSh, uNm, uFr, uTo, wX, wY, wX2, wY2, jX, jY, lX, lY, pX, pY, par, pPt, rnk, ne_] using o_
  · intro w_ h_
    have o_ := D.2.2.1.1 w_ (by simpa [dSh, dN_eN, dL_eL, dI_eI, dL_eN, dI_eN, dN_eL, dI_eL, dN_eI, dL_eI, nS, nW, nJ, nL, nP, nO, nU, bas, wSh, wDr, jSh, lSh, lNm, pSh, pOp, oSh, oLb, oNm, uSh, uNm, uFr, uTo, wX, wY, wX2, wY2, jX, jY, lX, lY, pX, pY, par, pPt, rnk] using h_)
    rw [(A 805 (by omega) (by omega) (by decide) (by omega) (by omega)).1, (A 806 (by omega) (by omega) (by decide) (by omega) (by omega)).2]
    simpa [dSh, dN_eN, dL_eL, dI_eI, dL_eN, dI_eN, dN_eL, dI_eL, dN_eI, dL_eI, nS, nW, nJ, nL, nP, nO, nU, bas, wSh, wDr, jSh, lSh, lNm, pSh, pOp, oSh, oLb, oNm, uSh, uNm, uFr, uTo, wX, wY, wX2, wY2, jX, jY, lX, lY, pX, pY, par, pPt, rnk] using o_
  · intro w_ h_
    have o_ := D.2.2.1.2 w_ h_
    rw [(A 807 (by omega) (by omega) (by decide) (by omega) (by omega)).1]
    simpa [dSh, dN_eN, dL_eL, dI_eI, dL_eN, dI_eN, dN_eL, dI_eL, dN_eI, dL_eI, nS, nW, nJ, nL, nP, nO, nU, bas, wSh, wDr, jSh, lSh, lNm, pSh, pOp, oSh, oLb, oNm, uSh, uNm, uFr, uTo, wX, wY, wX2, wY2, jX, jY, lX, lY, pX, pY, par, pPt, rnk] using o_
  · intro k_ h_
    have o_ := D.2.2.2.1 k_ (by simpa [dSh, dN_eN, dL_eL, dI_eI, dL_eN, dI_eN, dN_eL, dI_eL, dN_eI, dL_eI, nS, nW, nJ, nL, nP, nO, nU, bas, wSh, wDr, jSh, lSh, lNm, pSh, pOp, oSh, oLb, oNm, uSh, uNm, uFr, uTo, wX, wY, wX2, wY2, jX, jY, lX, lY, pX, pY, par, pPt, rnk] using h_)
    rw [(A 809 (by omega) (by omega) (by decide) (by omega) (by omega)).1, (A 810 (by omega) (by omega) (by decide) (by omega) (by omega)).2]
    simpa [dSh, dN_eN, dL_eL, dI_eI, dL_eN, dI_eN, dN_eL, dI_eL, dN_eI, dL_eI, nS, nW, nJ, nL, nP, nO, nU, bas, wSh, wDr, jSh, lSh, lNm, pSh, pOp, oSh, oLb, oNm, uSh, uNm, uFr, uTo, wX, wY, wX2, wY2, jX, jY, lX, lY, pX, pY, par, pPt, rnk] using o_
  · intro l_ h_
    have o_ := D.2.2.2.2.1 l_ (by simpa [dSh, dN_eN, dL_eL, dI_eI, dL_eN, dI_eN, dN_eL, dI_eL, dN_eI, dL_eI, nS, nW, nJ, nL, nP, nO, nU, bas, wSh, wDr, jSh, lSh, lNm, pSh, pOp, oSh, oLb, oNm, uSh, uNm, uFr, uTo, wX, wY, wX2, wY2, jX, jY, lX, lY, pX, pY, par, pPt, rnk] using h_)
    rw [(A 812 (by omega) (by omega) (by decide) (by omega) (by omega)).1, (A 813 (by omega) (by omega) (by decide) (by omega) (by omega)).1, (A 814 (by omega) (by omega) (by decide) (by omega) (by omega)).2]
    simpa [dSh, dN_eN, dL_eL, dI_eI, dL_eN, dI_eN, dN_eL, dI_eL, dN_eI, dL_eI, nS, nW, nJ, nL, nP, nO, nU, bas, wSh, wDr, jSh, lSh, lNm, pSh, pOp, oSh, oLb, oNm, uSh, uNm, uFr, uTo, wX, wY, wX2, wY2, jX, jY, lX, lY, pX, pY, par, pPt, rnk] using o_
  · intro p_ h_
    have o_ := D.2.2.2.2.2.1.1 p_ (by simpa [dSh, dN_eN, dL_eL, dI_eI, dL_eN, dI_eN, dN_eL, dI_eL, dN_eI, dL_eI, nS, nW, nJ, nL, nP, nO, nU, bas, wSh, wDr, jSh, lSh, lNm, pSh, pOp, oSh, oLb, oNm, uSh, uNm, uFr, uTo, wX, wY, wX2, wY2, jX, jY, lX, lY, pX, pY, par, pPt, rnk] using h_)
    rw [(A 816 (by omega) (by omega) (by decide) (by omega) (by omega)).1, (A 817 (by omega) (by omega) (by decide) (by omega) (by omega)).1, (A 818 (by omega) (by omega) (by decide) (by omega) (by omega)).2]
    simpa [dSh, dN_eN, dL_eL, dI_eI, dL_eN, dI_eN, dN_eL, dI_eL, dN_eI, dL_eI, nS, nW, nJ, nL, nP, nO, nU, bas, wSh, wDr, jSh, lSh, lNm, pSh, pOp, oSh, oLb, oNm, uSh, uNm, uFr, uTo, wX, wY, wX2, wY2, jX, jY, lX, lY, pX, pY, par, pPt, rnk] using o_
  · intro p_ h_
    have o_ := D.2.2.2.2.2.1.2 p_ h_
    rw [(A 819 (by omega) (by omega) (by decide) (by omega) (by omega)).1]
    simpa [dSh, dN_eN, dL_eL, dI_eI, dL_eN, dI_eN, dN_eL, dI_eL, dN_eI, dL_eI, nS, nW, nJ, nL, nP, nO, nU, bas, wSh, wDr, jSh, lSh, lNm, pSh, pOp, oSh, oLb, oNm, uSh, uNm, uFr, uTo, wX, wY, wX2, wY2, jX, jY, lX, lY, pX, pY, par, pPt, rnk] using o_
  · intro k_ h_
    have o_ := D.2.2.2.2.2.2.1 k_ (by simpa [dSh, dN_eN, dL_eL, dI_eI, dL_eN, dI_eN, dN_eL, dI_eL, dN_eI, dL_eI, nS, nW, nJ, nL, nP, nO, nU, bas, wSh, wDr, jSh, lSh, lNm, pSh, pOp, oSh, oLb, oNm, uSh, uNm, uFr, uTo, wX, wY, wX2, wY2, jX, jY, lX, lY, pX, pY, par, pPt, rnk] using h_)
    rw [(A 821 (by omega) (by omega) (by decide) (by omega) (by omega)).1]
    simpa [dSh, dN_eN, dL_eL, dI_eI, dL_eN, dI_eN, dN_eL, dI_eL, dN_eI, dL_eI, nS, nW, nJ, nL, nP, nO, nU, bas, wSh, wDr, jSh, lSh, lNm, pSh, pOp, oSh, oLb, oNm, uSh, uNm, uFr, uTo, wX, wY, wX2, wY2, jX, jY, lX, lY, pX, pY, par, pPt, rnk] using o_
  · intro b_ h_
    have o_ := D.2.2.2.2.2.2.2.1 b_ (by simpa [dSh, dN_eN, dL_eL, dI_eI, dL_eN, dI_eN, dN_eL, dI_eL, dN_eI, dL_eI, nS, nW, nJ, nL, nP, nO, nU, bas, wSh, wDr, jSh, lSh, lNm, pSh, pOp, oSh, oLb, oNm, uSh, uNm, uFr, uTo, wX, wY, wX2, wY2, jX, jY, lX, lY, pX, pY, par, pPt, rnk] using h_)
    rw [(A 823 (by omega) (by omega) (by decide) (by omega) (by omega)).1]
    simpa [dSh, dN_eN, dL_eL, dI_eI, dL_eN, dI_eN, dN_eL, dI_eL, dN_eI, dL_eI, nS, nW, nJ, nL, nP, nO, nU, bas, wSh, wDr, jSh, lSh, lNm, pSh, pOp, oSh, oLb, oNm, uSh, uNm, uFr, uTo, wX, wY, wX2, wY2, jX, jY, lX, lY, pX, pY, par, pPt, rnk] using o_
  · intro n_ h_
    have o_ := D.2.2.2.2.2.2.2.2 n_ h_
    rw [(A 824 (by omega) (by omega) (by decide) (by omega) (by omega)).1]
    simpa [dSh, dN_eN, dL_eL, dI_eI, dL_eN, dI_eN, dN_eL, dI_eL, dN_eI, dL_eI, nS, nW, nJ, nL, nP, nO, nU, bas, wSh, wDr, jSh, lSh, lNm, pSh, pOp, oSh, oLb, oNm, uSh, uNm, uFr, uTo, wX, wY, wX2, wY2, jX, jY, lX, lY, pX, pY, par, pPt, rnk] using o_
theorem rd_wi (s : Nat) (a b c e : Int64) (D : RD vm R h d) (I : ∀ g, 801 ≤ g → g ≤ 822 → gI h' g vm = if g = 804 then nI (nW d + 1) else gI h g vm) (A : ∀ g, 802 ≤ g → g ≤ 824 → rK g ≠ 0 → g ≠ 805 → g ≠ 806 → gA h' (R g) = gA h (R g) ∧ gL h' (R g) = gL h (R g)) (x2 : ∀ j, gA h' (R 805) j = if j = nW d then nI s else gA h (R 805) j) (x3 : ∀ j, gL h' (R 806) j = if j = 4 * nW d + 3 then e else if j = 4 * nW d + 2 then c else if j = 4 * nW d + 1 then b else if j = 4 * nW d then a else gL h (R 806) j) : RD vm R h' (dWi d s a b c e) := by
  refine ⟨⟨?_, ?_, ?_, ?_, ?_, ?_, ?_⟩, ?_, ⟨?_, ?_⟩, ?_, ?_, ⟨?_, ?_⟩, ?_, ?_, ?_⟩
  · rw [I 801 (by omega) (by omega), if_neg (by omega), D.1.1]; simp [dWi, dN_eN, dL_eL, dI_eI, dL_eN, dI_eN, dN_eL, dI_eL, dN_eI, dL_eI, nS, nW, nJ, nL, nP, nO, nU, bas, wSh, wDr, jSh, lSh, lNm, pSh, pOp, oSh, oLb, oNm, uSh, uNm, uFr, uTo, wX, wY, wX2, wY2, jX, jY, lX, lY, pX, pY, par, pPt, rnk]
  · rw [I 804 (by omega) (by omega), if_pos rfl]; simp [dWi, dN_eN, dL_eL, dI_eI, dL_eN, dI_eN, dN_eL, dI_eL, dN_eI, dL_eI, nS, nW, nJ, nL, nP, nO, nU, bas, wSh, wDr, jSh, lSh, lNm, pSh, pOp, oSh, oLb, oNm, uSh, uNm, uFr, uTo, wX, wY, wX2, wY2, jX, jY, lX, lY, pX, pY, par, pPt, rnk]
  · rw [I 808 (by omega) (by omega), if_neg (by omega), D.1.2.2.1]; simp [dWi, dN_eN, dL_eL, dI_eI, dL_eN, dI_eN, dN_eL, dI_eL, dN_eI, dL_eI, nS, nW, nJ, nL, nP, nO, nU, bas, wSh, wDr, jSh, lSh, lNm, pSh, pOp, oSh, oLb, oNm, uSh, uNm, uFr, uTo, wX, wY, wX2, wY2, jX, jY, lX, lY, pX, pY, par, pPt, rnk]
  · rw [I 811 (by omega) (by omega), if_neg (by omega), D.1.2.2.2.1]; simp [dWi, dN_eN, dL_eL, dI_eI, dL_eN, dI_eN, dN_eL, dI_eL, dN_eI, dL_eI, nS, nW, nJ, nL, nP, nO, nU, bas, wSh, wDr, jSh, lSh, lNm, pSh, pOp, oSh, oLb, oNm, uSh, uNm, uFr, uTo, wX, wY, wX2, wY2, jX, jY, lX, lY, pX, pY, par, pPt, rnk]
  · rw [I 815 (by omega) (by omega), if_neg (by omega), D.1.2.2.2.2.1]; simp [dWi, dN_eN, dL_eL, dI_eI, dL_eN, dI_eN, dN_eL, dI_eL, dN_eI, dL_eI, nS, nW, nJ, nL, nP, nO, nU, bas, wSh, wDr, jSh, lSh, lNm, pSh, pOp, oSh, oLb, oNm, uSh, uNm, uFr, uTo, wX, wY, wX2, wY2, jX, jY, lX, lY, pX, pY, par, pPt, rnk]
  · rw [I 820 (by omega) (by omega), if_neg (by omega), D.1.2.2.2.2.2.1]; simp [dWi, dN_eN, dL_eL, dI_eI, dL_eN, dI_eN, dN_eL, dI_eL, dN_eI, dL_eI, nS, nW, nJ, nL, nP, nO, nU, bas, wSh, wDr, jSh, lSh, lNm, pSh, pOp, oSh, oLb, oNm, uSh, uNm, uFr, uTo, wX, wY, wX2, wY2, jX, jY, lX, lY, pX, pY, par, pPt, rnk]
  · rw [I 822 (by omega) (by omega), if_neg (by omega), D.1.2.2.2.2.2.2]; simp [dWi, dN_eN, dL_eL, dI_eI, dL_eN, dI_eN, dN_eL, dI_eL, dN_eI, dL_eI, nS, nW, nJ, nL, nP, nO, nU, bas, wSh, wDr, jSh, lSh, lNm, pSh, pOp, oSh, oLb, oNm, uSh, uNm, uFr, uTo, wX, wY, wX2, wY2, jX, jY, lX, lY, pX, pY, par, pPt, rnk]
  · intro t_ h_
    have o_ := D.2.1 t_ (by simpa [dWi, dN_eN, dL_eL, dI_eI, dL_eN, dI_eN, dN_eL, dI_eL, dN_eI, dL_eI, nS, nW, nJ, nL, nP, nO, nU, bas, wSh, wDr, jSh, lSh, lNm, pSh, pOp, oSh, oLb, oNm, uSh, uNm, uFr, uTo, wX, wY, wX2, wY2, jX, jY, lX, lY, pX, pY, par, pPt, rnk] using h_)
    rw [(A 802 (by omega) (by omega) (by decide) (by omega) (by omega)).1, (A 803 (by omega) (by omega) (by decide) (by omega) (by omega)).1]
    simpa [dWi, dN_eN, dL_eL, dI_eI, dL_eN, dI_eN, dN_eL, dI_eL, dN_eI, dL_eI, nS, nW, nJ, nL, nP, nO, nU, bas, wSh, wDr, jSh, lSh, lNm, pSh, pOp, oSh, oLb, oNm, uSh, uNm, uFr, uTo, wX, wY, wX2, wY2, jX, jY, lX, lY, pX, pY, par, pPt, rnk] using o_
  · intro w_ h_
    have h1_ : w_ < nW d + 1 := by simpa [dWi, dN_eN, dL_eL, dI_eI, dL_eN, dI_eN, dN_eL, dI_eL, dN_eI, dL_eI, nS, nW, nJ, nL, nP, nO, nU, bas, wSh, wDr, jSh, lSh, lNm, pSh, pOp, oSh, oLb, oNm, uSh, uNm, uFr, uTo, wX, wY, wX2, wY2, jX, jY, lX, lY, pX, pY, par, pPt, rnk] using h_
    by_cases e_ : w_ = nW d
    · subst e_
      rw [x2, x3, x3, x3, x3]
      simp [dWi, dN_eN, dL_eL, dI_eI, dL_eN, dI_eN, dN_eL, dI_eL, dN_eI, dL_eI, nS, nW, nJ, nL, nP, nO, nU, bas, wSh, wDr, jSh, lSh, lNm, pSh, pOp, oSh, oLb, oNm, uSh, uNm, uFr, uTo, wX, wY, wX2, wY2, jX, jY, lX, lY, pX, pY, par, pPt, rnk]
    · have lt_ : w_ < nW d := by omega
      have o_ := D.2.2.1.1 w_ lt_
      have ne_ : w_ ≠ dN d 0 1 := e_
      rw [x2, x3, x3, x3, x3]
      simp only [nS, nW, nJ, nL, nP, nO, nU, bas, wSh, wDr, jSh, lSh, lNm, pSh, pOp, oSh, oLb, oNm, uSh, uNm, uFr, uTo, wX, wY, wX2, wY2, jX, jY, lX, lY, pX, pY, par, pPt, rnk] at e_ lt_ ⊢
      repeat rw [if_neg (by omega)]
      simpa [dWi, dN_eN, dL_eL, dI_eI, dL_eN, dI_eN, dN_eL, dI_eL, dN_eI, dL_eI, nS, nW, nJ, nL, nP, nO, nU, bas, wSh, wDr, jSh, lSh, lNm, pSh, pOp, oSh, oLb, oNm, uSh, uNm, uFr, uTo, wX, wY, wX2, wY2, jX, jY, lX, lY, pX, pY, par, pPt, rnk, ne_] using o_
  · intro w_ h_
    have o_ := D.2.2.1.2 w_ h_
    rw [(A 807 (by omega) (by omega) (by decide) (by omega) (by omega)).1]
    simpa [dWi, dN_eN, dL_eL, dI_eI, dL_eN, dI_eN, dN_eL, dI_eL, dN_eI, dL_eI, nS, nW, nJ, nL, nP, nO, nU, bas, wSh, wDr, jSh, lSh, lNm, pSh, pOp, oSh, oLb, oNm, uSh, uNm, uFr, uTo, wX, wY, wX2, wY2, jX, jY, lX, lY, pX, pY, par, pPt, rnk] using o_
  · intro k_ h_
    have o_ := D.2.2.2.1 k_ (by simpa [dWi, dN_eN, dL_eL, dI_eI, dL_eN, dI_eN, dN_eL, dI_eL, dN_eI, dL_eI, nS, nW, nJ, nL, nP, nO, nU, bas, wSh, wDr, jSh, lSh, lNm, pSh, pOp, oSh, oLb, oNm, uSh, uNm, uFr, uTo, wX, wY, wX2, wY2, jX, jY, lX, lY, pX, pY, par, pPt, rnk] using h_)
    rw [(A 809 (by omega) (by omega) (by decide) (by omega) (by omega)).1, (A 810 (by omega) (by omega) (by decide) (by omega) (by omega)).2]
    simpa [dWi, dN_eN, dL_eL, dI_eI, dL_eN, dI_eN, dN_eL, dI_eL, dN_eI, dL_eI, nS, nW, nJ, nL, nP, nO, nU, bas, wSh, wDr, jSh, lSh, lNm, pSh, pOp, oSh, oLb, oNm, uSh, uNm, uFr, uTo, wX, wY, wX2, wY2, jX, jY, lX, lY, pX, pY, par, pPt, rnk] using o_
  · intro l_ h_
    have o_ := D.2.2.2.2.1 l_ (by simpa [dWi, dN_eN, dL_eL, dI_eI, dL_eN, dI_eN, dN_eL, dI_eL, dN_eI, dL_eI, nS, nW, nJ, nL, nP, nO, nU, bas, wSh, wDr, jSh, lSh, lNm, pSh, pOp, oSh, oLb, oNm, uSh, uNm, uFr, uTo, wX, wY, wX2, wY2, jX, jY, lX, lY, pX, pY, par, pPt, rnk] using h_)
    rw [(A 812 (by omega) (by omega) (by decide) (by omega) (by omega)).1, (A 813 (by omega) (by omega) (by decide) (by omega) (by omega)).1, (A 814 (by omega) (by omega) (by decide) (by omega) (by omega)).2]
    simpa [dWi, dN_eN, dL_eL, dI_eI, dL_eN, dI_eN, dN_eL, dI_eL, dN_eI, dL_eI, nS, nW, nJ, nL, nP, nO, nU, bas, wSh, wDr, jSh, lSh, lNm, pSh, pOp, oSh, oLb, oNm, uSh, uNm, uFr, uTo, wX, wY, wX2, wY2, jX, jY, lX, lY, pX, pY, par, pPt, rnk] using o_
  · intro p_ h_
    have o_ := D.2.2.2.2.2.1.1 p_ (by simpa [dWi, dN_eN, dL_eL, dI_eI, dL_eN, dI_eN, dN_eL, dI_eL, dN_eI, dL_eI, nS, nW, nJ, nL, nP, nO, nU, bas, wSh, wDr, jSh, lSh, lNm, pSh, pOp, oSh, oLb, oNm, uSh, uNm, uFr, uTo, wX, wY, wX2, wY2, jX, jY, lX, lY, pX, pY, par, pPt, rnk] using h_)
    rw [(A 816 (by omega) (by omega) (by decide) (by omega) (by omega)).1, (A 817 (by omega) (by omega) (by decide) (by omega) (by omega)).1, (A 818 (by omega) (by omega) (by decide) (by omega) (by omega)).2]
    simpa [dWi, dN_eN, dL_eL, dI_eI, dL_eN, dI_eN, dN_eL, dI_eL, dN_eI, dL_eI, nS, nW, nJ, nL, nP, nO, nU, bas, wSh, wDr, jSh, lSh, lNm, pSh, pOp, oSh, oLb, oNm, uSh, uNm, uFr, uTo, wX, wY, wX2, wY2, jX, jY, lX, lY, pX, pY, par, pPt, rnk] using o_
  · intro p_ h_
    have o_ := D.2.2.2.2.2.1.2 p_ h_
    rw [(A 819 (by omega) (by omega) (by decide) (by omega) (by omega)).1]
    simpa [dWi, dN_eN, dL_eL, dI_eI, dL_eN, dI_eN, dN_eL, dI_eL, dN_eI, dL_eI, nS, nW, nJ, nL, nP, nO, nU, bas, wSh, wDr, jSh, lSh, lNm, pSh, pOp, oSh, oLb, oNm, uSh, uNm, uFr, uTo, wX, wY, wX2, wY2, jX, jY, lX, lY, pX, pY, par, pPt, rnk] using o_
  · intro k_ h_
    have o_ := D.2.2.2.2.2.2.1 k_ (by simpa [dWi, dN_eN, dL_eL, dI_eI, dL_eN, dI_eN, dN_eL, dI_eL, dN_eI, dL_eI, nS, nW, nJ, nL, nP, nO, nU, bas, wSh, wDr, jSh, lSh, lNm, pSh, pOp, oSh, oLb, oNm, uSh, uNm, uFr, uTo, wX, wY, wX2, wY2, jX, jY, lX, lY, pX, pY, par, pPt, rnk] using h_)
    rw [(A 821 (by omega) (by omega) (by decide) (by omega) (by omega)).1]
    simpa [dWi, dN_eN, dL_eL, dI_eI, dL_eN, dI_eN, dN_eL, dI_eL, dN_eI, dL_eI, nS, nW, nJ, nL, nP, nO, nU, bas, wSh, wDr, jSh, lSh, lNm, pSh, pOp, oSh, oLb, oNm, uSh, uNm, uFr, uTo, wX, wY, wX2, wY2, jX, jY, lX, lY, pX, pY, par, pPt, rnk] using o_
  · intro b_ h_
    have o_ := D.2.2.2.2.2.2.2.1 b_ (by simpa [dWi, dN_eN, dL_eL, dI_eI, dL_eN, dI_eN, dN_eL, dI_eL, dN_eI, dL_eI, nS, nW, nJ, nL, nP, nO, nU, bas, wSh, wDr, jSh, lSh, lNm, pSh, pOp, oSh, oLb, oNm, uSh, uNm, uFr, uTo, wX, wY, wX2, wY2, jX, jY, lX, lY, pX, pY, par, pPt, rnk] using h_)
    rw [(A 823 (by omega) (by omega) (by decide) (by omega) (by omega)).1]
    simpa [dWi, dN_eN, dL_eL, dI_eI, dL_eN, dI_eN, dN_eL, dI_eL, dN_eI, dL_eI, nS, nW, nJ, nL, nP, nO, nU, bas, wSh, wDr, jSh, lSh, lNm, pSh, pOp, oSh, oLb, oNm, uSh, uNm, uFr, uTo, wX, wY, wX2, wY2, jX, jY, lX, lY, pX, pY, par, pPt, rnk] using o_
  · intro n_ h_
    have o_ := D.2.2.2.2.2.2.2.2 n_ h_
    rw [(A 824 (by omega) (by omega) (by decide) (by omega) (by omega)).1]
    simpa [dWi, dN_eN, dL_eL, dI_eI, dL_eN, dI_eN, dN_eL, dI_eL, dN_eI, dL_eI, nS, nW, nJ, nL, nP, nO, nU, bas, wSh, wDr, jSh, lSh, lNm, pSh, pOp, oSh, oLb, oNm, uSh, uNm, uFr, uTo, wX, wY, wX2, wY2, jX, jY, lX, lY, pX, pY, par, pPt, rnk] using o_
theorem rd_ju (s : Nat) (a b : Int64) (D : RD vm R h d) (I : ∀ g, 801 ≤ g → g ≤ 822 → gI h' g vm = if g = 808 then nI (nJ d + 1) else gI h g vm) (A : ∀ g, 802 ≤ g → g ≤ 824 → rK g ≠ 0 → g ≠ 809 → g ≠ 810 → gA h' (R g) = gA h (R g) ∧ gL h' (R g) = gL h (R g)) (x2 : ∀ j, gA h' (R 809) j = if j = nJ d then nI s else gA h (R 809) j) (x3 : ∀ j, gL h' (R 810) j = if j = 2 * nJ d + 1 then b else if j = 2 * nJ d then a else gL h (R 810) j) : RD vm R h' (dJu d s a b) := by
  refine ⟨⟨?_, ?_, ?_, ?_, ?_, ?_, ?_⟩, ?_, ⟨?_, ?_⟩, ?_, ?_, ⟨?_, ?_⟩, ?_, ?_, ?_⟩
  · rw [I 801 (by omega) (by omega), if_neg (by omega), D.1.1]; simp [dJu, dN_eN, dL_eL, dI_eI, dL_eN, dI_eN, dN_eL, dI_eL, dN_eI, dL_eI, nS, nW, nJ, nL, nP, nO, nU, bas, wSh, wDr, jSh, lSh, lNm, pSh, pOp, oSh, oLb, oNm, uSh, uNm, uFr, uTo, wX, wY, wX2, wY2, jX, jY, lX, lY, pX, pY, par, pPt, rnk]
  · rw [I 804 (by omega) (by omega), if_neg (by omega), D.1.2.1]; simp [dJu, dN_eN, dL_eL, dI_eI, dL_eN, dI_eN, dN_eL, dI_eL, dN_eI, dL_eI, nS, nW, nJ, nL, nP, nO, nU, bas, wSh, wDr, jSh, lSh, lNm, pSh, pOp, oSh, oLb, oNm, uSh, uNm, uFr, uTo, wX, wY, wX2, wY2, jX, jY, lX, lY, pX, pY, par, pPt, rnk]
  · rw [I 808 (by omega) (by omega), if_pos rfl]; simp [dJu, dN_eN, dL_eL, dI_eI, dL_eN, dI_eN, dN_eL, dI_eL, dN_eI, dL_eI, nS, nW, nJ, nL, nP, nO, nU, bas, wSh, wDr, jSh, lSh, lNm, pSh, pOp, oSh, oLb, oNm, uSh, uNm, uFr, uTo, wX, wY, wX2, wY2, jX, jY, lX, lY, pX, pY, par, pPt, rnk]
  · rw [I 811 (by omega) (by omega), if_neg (by omega), D.1.2.2.2.1]; simp [dJu, dN_eN, dL_eL, dI_eI, dL_eN, dI_eN, dN_eL, dI_eL, dN_eI, dL_eI, nS, nW, nJ, nL, nP, nO, nU, bas, wSh, wDr, jSh, lSh, lNm, pSh, pOp, oSh, oLb, oNm, uSh, uNm, uFr, uTo, wX, wY, wX2, wY2, jX, jY, lX, lY, pX, pY, par, pPt, rnk]
  · rw [I 815 (by omega) (by omega), if_neg (by omega), D.1.2.2.2.2.1]; simp [dJu, dN_eN, dL_eL, dI_eI, dL_eN, dI_eN, dN_eL, dI_eL, dN_eI, dL_eI, nS, nW, nJ, nL, nP, nO, nU, bas, wSh, wDr, jSh, lSh, lNm, pSh, pOp, oSh, oLb, oNm, uSh, uNm, uFr, uTo, wX, wY, wX2, wY2, jX, jY, lX, lY, pX, pY, par, pPt, rnk]
  · rw [I 820 (by omega) (by omega), if_neg (by omega), D.1.2.2.2.2.2.1]; simp [dJu, dN_eN, dL_eL, dI_eI, dL_eN, dI_eN, dN_eL, dI_eL, dN_eI, dL_eI, nS, nW, nJ, nL, nP, nO, nU, bas, wSh, wDr, jSh, lSh, lNm, pSh, pOp, oSh, oLb, oNm, uSh, uNm, uFr, uTo, wX, wY, wX2, wY2, jX, jY, lX, lY, pX, pY, par, pPt, rnk]
  · rw [I 822 (by omega) (by omega), if_neg (by omega), D.1.2.2.2.2.2.2]; simp [dJu, dN_eN, dL_eL, dI_eI, dL_eN, dI_eN, dN_eL, dI_eL, dN_eI, dL_eI, nS, nW, nJ, nL, nP, nO, nU, bas, wSh, wDr, jSh, lSh, lNm, pSh, pOp, oSh, oLb, oNm, uSh, uNm, uFr, uTo, wX, wY, wX2, wY2, jX, jY, lX, lY, pX, pY, par, pPt, rnk]
  · intro t_ h_
    have o_ := D.2.1 t_ (by simpa [dJu, dN_eN, dL_eL, dI_eI, dL_eN, dI_eN, dN_eL, dI_eL, dN_eI, dL_eI, nS, nW, nJ, nL, nP, nO, nU, bas, wSh, wDr, jSh, lSh, lNm, pSh, pOp, oSh, oLb, oNm, uSh, uNm, uFr, uTo, wX, wY, wX2, wY2, jX, jY, lX, lY, pX, pY, par, pPt, rnk] using h_)
    rw [(A 802 (by omega) (by omega) (by decide) (by omega) (by omega)).1, (A 803 (by omega) (by omega) (by decide) (by omega) (by omega)).1]
    simpa [dJu, dN_eN, dL_eL, dI_eI, dL_eN, dI_eN, dN_eL, dI_eL, dN_eI, dL_eI, nS, nW, nJ, nL, nP, nO, nU, bas, wSh, wDr, jSh, lSh, lNm, pSh, pOp, oSh, oLb, oNm, uSh, uNm, uFr, uTo, wX, wY, wX2, wY2, jX, jY, lX, lY, pX, pY, par, pPt, rnk] using o_
  · intro w_ h_
    have o_ := D.2.2.1.1 w_ (by simpa [dJu, dN_eN, dL_eL, dI_eI, dL_eN, dI_eN, dN_eL, dI_eL, dN_eI, dL_eI, nS, nW, nJ, nL, nP, nO, nU, bas, wSh, wDr, jSh, lSh, lNm, pSh, pOp, oSh, oLb, oNm, uSh, uNm, uFr, uTo, wX, wY, wX2, wY2, jX, jY, lX, lY, pX, pY, par, pPt, rnk] using h_)
    rw [(A 805 (by omega) (by omega) (by decide) (by omega) (by omega)).1, (A 806 (by omega) (by omega) (by decide) (by omega) (by omega)).2]
    simpa [dJu, dN_eN, dL_eL, dI_eI, dL_eN, dI_eN, dN_eL, dI_eL, dN_eI, dL_eI, nS, nW, nJ, nL, nP, nO, nU, bas, wSh, wDr, jSh, lSh, lNm, pSh, pOp, oSh, oLb, oNm, uSh, uNm, uFr, uTo, wX, wY, wX2, wY2, jX, jY, lX, lY, pX, pY, par, pPt, rnk] using o_
  · intro w_ h_
    have o_ := D.2.2.1.2 w_ h_
    rw [(A 807 (by omega) (by omega) (by decide) (by omega) (by omega)).1]
    simpa [dJu, dN_eN, dL_eL, dI_eI, dL_eN, dI_eN, dN_eL, dI_eL, dN_eI, dL_eI, nS, nW, nJ, nL, nP, nO, nU, bas, wSh, wDr, jSh, lSh, lNm, pSh, pOp, oSh, oLb, oNm, uSh, uNm, uFr, uTo, wX, wY, wX2, wY2, jX, jY, lX, lY, pX, pY, par, pPt, rnk] using o_
  · intro k_ h_
    have h1_ : k_ < nJ d + 1 := by simpa [dJu, dN_eN, dL_eL, dI_eI, dL_eN, dI_eN, dN_eL, dI_eL, dN_eI, dL_eI, nS, nW, nJ, nL, nP, nO, nU, bas, wSh, wDr, jSh, lSh, lNm, pSh, pOp, oSh, oLb, oNm, uSh, uNm, uFr, uTo, wX, wY, wX2, wY2, jX, jY, lX, lY, pX, pY, par, pPt, rnk] using h_
    by_cases e_ : k_ = nJ d
    · subst e_
      rw [x2, x3, x3]
      simp [dJu, dN_eN, dL_eL, dI_eI, dL_eN, dI_eN, dN_eL, dI_eL, dN_eI, dL_eI, nS, nW, nJ, nL, nP, nO, nU, bas, wSh, wDr, jSh, lSh, lNm, pSh, pOp, oSh, oLb, oNm, uSh, uNm, uFr, uTo, wX, wY, wX2, wY2, jX, jY, lX, lY, pX, pY, par, pPt, rnk]
    · have lt_ : k_ < nJ d := by omega
      have o_ := D.2.2.2.1 k_ lt_
      have ne_ : k_ ≠ dN d 0 2 := e_
      rw [x2, x3, x3]
      simp only [nS, nW, nJ, nL, nP, nO, nU, bas, wSh, wDr, jSh, lSh, lNm, pSh, pOp, oSh, oLb, oNm, uSh, uNm, uFr, uTo, wX, wY, wX2, wY2, jX, jY, lX, lY, pX, pY, par, pPt, rnk] at e_ lt_ ⊢
      repeat rw [if_neg (by omega)]
      simpa [dJu, dN_eN, dL_eL, dI_eI, dL_eN, dI_eN, dN_eL, dI_eL, dN_eI, dL_eI, nS, nW, nJ, nL, nP, nO, nU, bas, wSh, wDr, jSh, lSh, lNm, pSh, pOp, oSh, oLb, oNm, uSh, uNm, uFr, uTo, wX, wY, wX2, wY2, jX, jY, lX, lY, pX, pY, par, pPt, rnk, ne_] using o_
  · intro l_ h_
    have o_ := D.2.2.2.2.1 l_ (by simpa [dJu, dN_eN, dL_eL, dI_eI, dL_eN, dI_eN, dN_eL, dI_eL, dN_eI, dL_eI, nS, nW, nJ, nL, nP, nO, nU, bas, wSh, wDr, jSh, lSh, lNm, pSh, pOp, oSh, oLb, oNm, uSh, uNm, uFr, uTo, wX, wY, wX2, wY2, jX, jY, lX, lY, pX, pY, par, pPt, rnk] using h_)
    rw [(A 812 (by omega) (by omega) (by decide) (by omega) (by omega)).1, (A 813 (by omega) (by omega) (by decide) (by omega) (by omega)).1, (A 814 (by omega) (by omega) (by decide) (by omega) (by omega)).2]
    simpa [dJu, dN_eN, dL_eL, dI_eI, dL_eN, dI_eN, dN_eL, dI_eL, dN_eI, dL_eI, nS, nW, nJ, nL, nP, nO, nU, bas, wSh, wDr, jSh, lSh, lNm, pSh, pOp, oSh, oLb, oNm, uSh, uNm, uFr, uTo, wX, wY, wX2, wY2, jX, jY, lX, lY, pX, pY, par, pPt, rnk] using o_
  · intro p_ h_
    have o_ := D.2.2.2.2.2.1.1 p_ (by simpa [dJu, dN_eN, dL_eL, dI_eI, dL_eN, dI_eN, dN_eL, dI_eL, dN_eI, dL_eI, nS, nW, nJ, nL, nP, nO, nU, bas, wSh, wDr, jSh, lSh, lNm, pSh, pOp, oSh, oLb, oNm, uSh, uNm, uFr, uTo, wX, wY, wX2, wY2, jX, jY, lX, lY, pX, pY, par, pPt, rnk] using h_)
    rw [(A 816 (by omega) (by omega) (by decide) (by omega) (by omega)).1, (A 817 (by omega) (by omega) (by decide) (by omega) (by omega)).1, (A 818 (by omega) (by omega) (by decide) (by omega) (by omega)).2]
    simpa [dJu, dN_eN, dL_eL, dI_eI, dL_eN, dI_eN, dN_eL, dI_eL, dN_eI, dL_eI, nS, nW, nJ, nL, nP, nO, nU, bas, wSh, wDr, jSh, lSh, lNm, pSh, pOp, oSh, oLb, oNm, uSh, uNm, uFr, uTo, wX, wY, wX2, wY2, jX, jY, lX, lY, pX, pY, par, pPt, rnk] using o_
  · intro p_ h_
    have o_ := D.2.2.2.2.2.1.2 p_ h_
    rw [(A 819 (by omega) (by omega) (by decide) (by omega) (by omega)).1]
    simpa [dJu, dN_eN, dL_eL, dI_eI, dL_eN, dI_eN, dN_eL, dI_eL, dN_eI, dL_eI, nS, nW, nJ, nL, nP, nO, nU, bas, wSh, wDr, jSh, lSh, lNm, pSh, pOp, oSh, oLb, oNm, uSh, uNm, uFr, uTo, wX, wY, wX2, wY2, jX, jY, lX, lY, pX, pY, par, pPt, rnk] using o_
  · intro k_ h_
    have o_ := D.2.2.2.2.2.2.1 k_ (by simpa [dJu, dN_eN, dL_eL, dI_eI, dL_eN, dI_eN, dN_eL, dI_eL, dN_eI, dL_eI, nS, nW, nJ, nL, nP, nO, nU, bas, wSh, wDr, jSh, lSh, lNm, pSh, pOp, oSh, oLb, oNm, uSh, uNm, uFr, uTo, wX, wY, wX2, wY2, jX, jY, lX, lY, pX, pY, par, pPt, rnk] using h_)
    rw [(A 821 (by omega) (by omega) (by decide) (by omega) (by omega)).1]
    simpa [dJu, dN_eN, dL_eL, dI_eI, dL_eN, dI_eN, dN_eL, dI_eL, dN_eI, dL_eI, nS, nW, nJ, nL, nP, nO, nU, bas, wSh, wDr, jSh, lSh, lNm, pSh, pOp, oSh, oLb, oNm, uSh, uNm, uFr, uTo, wX, wY, wX2, wY2, jX, jY, lX, lY, pX, pY, par, pPt, rnk] using o_
  · intro b_ h_
    have o_ := D.2.2.2.2.2.2.2.1 b_ (by simpa [dJu, dN_eN, dL_eL, dI_eI, dL_eN, dI_eN, dN_eL, dI_eL, dN_eI, dL_eI, nS, nW, nJ, nL, nP, nO, nU, bas, wSh, wDr, jSh, lSh, lNm, pSh, pOp, oSh, oLb, oNm, uSh, uNm, uFr, uTo, wX, wY, wX2, wY2, jX, jY, lX, lY, pX, pY, par, pPt, rnk] using h_)
    rw [(A 823 (by omega) (by omega) (by decide) (by omega) (by omega)).1]
    simpa [dJu, dN_eN, dL_eL, dI_eI, dL_eN, dI_eN, dN_eL, dI_eL, dN_eI, dL_eI, nS, nW, nJ, nL, nP, nO, nU, bas, wSh, wDr, jSh, lSh, lNm, pSh, pOp, oSh, oLb, oNm, uSh, uNm, uFr, uTo, wX, wY, wX2, wY2, jX, jY, lX, lY, pX, pY, par, pPt, rnk] using o_
  · intro n_ h_
    have o_ := D.2.2.2.2.2.2.2.2 n_ h_
    rw [(A 824 (by omega) (by omega) (by decide) (by omega) (by omega)).1]
    simpa [dJu, dN_eN, dL_eL, dI_eI, dL_eN, dI_eN, dN_eL, dI_eL, dN_eI, dL_eI, nS, nW, nJ, nL, nP, nO, nU, bas, wSh, wDr, jSh, lSh, lNm, pSh, pOp, oSh, oLb, oNm, uSh, uNm, uFr, uTo, wX, wY, wX2, wY2, jX, jY, lX, lY, pX, pY, par, pPt, rnk] using o_
theorem rd_la (s : Nat) (a b : Int64) (nm : Nat) (D : RD vm R h d) (I : ∀ g, 801 ≤ g → g ≤ 822 → gI h' g vm = if g = 811 then nI (nL d + 1) else gI h g vm) (A : ∀ g, 802 ≤ g → g ≤ 824 → rK g ≠ 0 → g ≠ 812 → g ≠ 813 → g ≠ 814 → gA h' (R g) = gA h (R g) ∧ gL h' (R g) = gL h (R g)) (x2 : ∀ j, gA h' (R 812) j = if j = nL d then nI s else gA h (R 812) j) (x4 : ∀ j, gA h' (R 813) j = if j = nL d then nI nm else gA h (R 813) j) (x3 : ∀ j, gL h' (R 814) j = if j = 2 * nL d + 1 then b else if j = 2 * nL d then a else gL h (R 814) j) : RD vm R h' (dLa d s a b nm) := by
  refine ⟨⟨?_, ?_, ?_, ?_, ?_, ?_, ?_⟩, ?_, ⟨?_, ?_⟩, ?_, ?_, ⟨?_, ?_⟩, ?_, ?_, ?_⟩
  · rw [I 801 (by omega) (by omega), if_neg (by omega), D.1.1]; simp [dLa, dN_eN, dL_eL, dI_eI, dL_eN, dI_eN, dN_eL, dI_eL, dN_eI, dL_eI, nS, nW, nJ, nL, nP, nO, nU, bas, wSh, wDr, jSh, lSh, lNm, pSh, pOp, oSh, oLb, oNm, uSh, uNm, uFr, uTo, wX, wY, wX2, wY2, jX, jY, lX, lY, pX, pY, par, pPt, rnk]
  · rw [I 804 (by omega) (by omega), if_neg (by omega), D.1.2.1]; simp [dLa, dN_eN, dL_eL, dI_eI, dL_eN, dI_eN, dN_eL, dI_eL, dN_eI, dL_eI, nS, nW, nJ, nL, nP, nO, nU, bas, wSh, wDr, jSh, lSh, lNm, pSh, pOp, oSh, oLb, oNm, uSh, uNm, uFr, uTo, wX, wY, wX2, wY2, jX, jY, lX, lY, pX, pY, par, pPt, rnk]
  · rw [I 808 (by omega) (by omega), if_neg (by omega), D.1.2.2.1]; simp [dLa, dN_eN, dL_eL, dI_eI, dL_eN, dI_eN, dN_eL, dI_eL, dN_eI, dL_eI, nS, nW, nJ, nL, nP, nO, nU, bas, wSh, wDr, jSh, lSh, lNm, pSh, pOp, oSh, oLb, oNm, uSh, uNm, uFr, uTo, wX, wY, wX2, wY2, jX, jY, lX, lY, pX, pY, par, pPt, rnk]
  · rw [I 811 (by omega) (by omega), if_pos rfl]; simp [dLa, dN_eN, dL_eL, dI_eI, dL_eN, dI_eN, dN_eL, dI_eL, dN_eI, dL_eI, nS, nW, nJ, nL, nP, nO, nU, bas, wSh, wDr, jSh, lSh, lNm, pSh, pOp, oSh, oLb, oNm, uSh, uNm, uFr, uTo, wX, wY, wX2, wY2, jX, jY, lX, lY, pX, pY, par, pPt, rnk]
  · rw [I 815 (by omega) (by omega), if_neg (by omega), D.1.2.2.2.2.1]; simp [dLa, dN_eN, dL_eL, dI_eI, dL_eN, dI_eN, dN_eL, dI_eL, dN_eI, dL_eI, nS, nW, nJ, nL, nP, nO, nU, bas, wSh, wDr, jSh, lSh, lNm, pSh, pOp, oSh, oLb, oNm, uSh, uNm, uFr, uTo, wX, wY, wX2, wY2, jX, jY, lX, lY, pX, pY, par, pPt, rnk]
  · rw [I 820 (by omega) (by omega), if_neg (by omega), D.1.2.2.2.2.2.1]; simp [dLa, dN_eN, dL_eL, dI_eI, dL_eN, dI_eN, dN_eL, dI_eL, dN_eI, dL_eI, nS, nW, nJ, nL, nP, nO, nU, bas, wSh, wDr, jSh, lSh, lNm, pSh, pOp, oSh, oLb, oNm, uSh, uNm, uFr, uTo, wX, wY, wX2, wY2, jX, jY, lX, lY, pX, pY, par, pPt, rnk]
  · rw [I 822 (by omega) (by omega), if_neg (by omega), D.1.2.2.2.2.2.2]; simp [dLa, dN_eN, dL_eL, dI_eI, dL_eN, dI_eN, dN_eL, dI_eL, dN_eI, dL_eI, nS, nW, nJ, nL, nP, nO, nU, bas, wSh, wDr, jSh, lSh, lNm, pSh, pOp, oSh, oLb, oNm, uSh, uNm, uFr, uTo, wX, wY, wX2, wY2, jX, jY, lX, lY, pX, pY, par, pPt, rnk]
  · intro t_ h_
    have o_ := D.2.1 t_ (by simpa [dLa, dN_eN, dL_eL, dI_eI, dL_eN, dI_eN, dN_eL, dI_eL, dN_eI, dL_eI, nS, nW, nJ, nL, nP, nO, nU, bas, wSh, wDr, jSh, lSh, lNm, pSh, pOp, oSh, oLb, oNm, uSh, uNm, uFr, uTo, wX, wY, wX2, wY2, jX, jY, lX, lY, pX, pY, par, pPt, rnk] using h_)
    rw [(A 802 (by omega) (by omega) (by decide) (by omega) (by omega) (by omega)).1, (A 803 (by omega) (by omega) (by decide) (by omega) (by omega) (by omega)).1]
    simpa [dLa, dN_eN, dL_eL, dI_eI, dL_eN, dI_eN, dN_eL, dI_eL, dN_eI, dL_eI, nS, nW, nJ, nL, nP, nO, nU, bas, wSh, wDr, jSh, lSh, lNm, pSh, pOp, oSh, oLb, oNm, uSh, uNm, uFr, uTo, wX, wY, wX2, wY2, jX, jY, lX, lY, pX, pY, par, pPt, rnk] using o_
  · intro w_ h_
    have o_ := D.2.2.1.1 w_ (by simpa [dLa, dN_eN, dL_eL, dI_eI, dL_eN, dI_eN, dN_eL, dI_eL, dN_eI, dL_eI, nS, nW, nJ, nL, nP, nO, nU, bas, wSh, wDr, jSh, lSh, lNm, pSh, pOp, oSh, oLb, oNm, uSh, uNm, uFr, uTo, wX, wY, wX2, wY2, jX, jY, lX, lY, pX, pY, par, pPt, rnk] using h_)
    rw [(A 805 (by omega) (by omega) (by decide) (by omega) (by omega) (by omega)).1, (A 806 (by omega) (by omega) (by decide) (by omega) (by omega) (by omega)).2]
    simpa [dLa, dN_eN, dL_eL, dI_eI, dL_eN, dI_eN, dN_eL, dI_eL, dN_eI, dL_eI, nS, nW, nJ, nL, nP, nO, nU, bas, wSh, wDr, jSh, lSh, lNm, pSh, pOp, oSh, oLb, oNm, uSh, uNm, uFr, uTo, wX, wY, wX2, wY2, jX, jY, lX, lY, pX, pY, par, pPt, rnk] using o_
  · intro w_ h_
    have o_ := D.2.2.1.2 w_ h_
    rw [(A 807 (by omega) (by omega) (by decide) (by omega) (by omega) (by omega)).1]
    simpa [dLa, dN_eN, dL_eL, dI_eI, dL_eN, dI_eN, dN_eL, dI_eL, dN_eI, dL_eI, nS, nW, nJ, nL, nP, nO, nU, bas, wSh, wDr, jSh, lSh, lNm, pSh, pOp, oSh, oLb, oNm, uSh, uNm, uFr, uTo, wX, wY, wX2, wY2, jX, jY, lX, lY, pX, pY, par, pPt, rnk] using o_
  · intro k_ h_
    have o_ := D.2.2.2.1 k_ (by simpa [dLa, dN_eN, dL_eL, dI_eI, dL_eN, dI_eN, dN_eL, dI_eL, dN_eI, dL_eI, nS, nW, nJ, nL, nP, nO, nU, bas, wSh, wDr, jSh, lSh, lNm, pSh, pOp, oSh, oLb, oNm, uSh, uNm, uFr, uTo, wX, wY, wX2, wY2, jX, jY, lX, lY, pX, pY, par, pPt, rnk] using h_)
    rw [(A 809 (by omega) (by omega) (by decide) (by omega) (by omega) (by omega)).1, (A 810 (by omega) (by omega) (by decide) (by omega) (by omega) (by omega)).2]
    simpa [dLa, dN_eN, dL_eL, dI_eI, dL_eN, dI_eN, dN_eL, dI_eL, dN_eI, dL_eI, nS, nW, nJ, nL, nP, nO, nU, bas, wSh, wDr, jSh, lSh, lNm, pSh, pOp, oSh, oLb, oNm, uSh, uNm, uFr, uTo, wX, wY, wX2, wY2, jX, jY, lX, lY, pX, pY, par, pPt, rnk] using o_
  · intro l_ h_
    have h1_ : l_ < nL d + 1 := by simpa [dLa, dN_eN, dL_eL, dI_eI, dL_eN, dI_eN, dN_eL, dI_eL, dN_eI, dL_eI, nS, nW, nJ, nL, nP, nO, nU, bas, wSh, wDr, jSh, lSh, lNm, pSh, pOp, oSh, oLb, oNm, uSh, uNm, uFr, uTo, wX, wY, wX2, wY2, jX, jY, lX, lY, pX, pY, par, pPt, rnk] using h_
    by_cases e_ : l_ = nL d
    · subst e_
      rw [x2, x4, x3, x3]
      simp [dLa, dN_eN, dL_eL, dI_eI, dL_eN, dI_eN, dN_eL, dI_eL, dN_eI, dL_eI, nS, nW, nJ, nL, nP, nO, nU, bas, wSh, wDr, jSh, lSh, lNm, pSh, pOp, oSh, oLb, oNm, uSh, uNm, uFr, uTo, wX, wY, wX2, wY2, jX, jY, lX, lY, pX, pY, par, pPt, rnk]
    · have lt_ : l_ < nL d := by omega
      have o_ := D.2.2.2.2.1 l_ lt_
      have ne_ : l_ ≠ dN d 0 3 := e_
      rw [x2, x4, x3, x3]
      simp only [nS, nW, nJ, nL, nP, nO, nU, bas, wSh, wDr, jSh, lSh, lNm, pSh, pOp, oSh, oLb, oNm, uSh, uNm, uFr, uTo, wX, wY, wX2, wY2, jX, jY, lX, lY, pX, pY, par, pPt, rnk] at e_ lt_ ⊢
      repeat rw [if_neg (by omega)]
      simpa [dLa, dN_eN, dL_eL, dI_eI, dL_eN, dI_eN, dN_eL, dI_eL, dN_eI, dL_eI, nS, nW, nJ, nL, nP, nO, nU, bas, wSh, wDr, jSh, lSh, lNm, pSh, pOp, oSh, oLb, oNm, uSh, uNm, uFr, uTo, wX, wY, wX2, wY2, jX, jY, lX, lY, pX, pY, par, pPt, rnk, ne_] using o_
  · intro p_ h_
    have o_ := D.2.2.2.2.2.1.1 p_ (by simpa [dLa, dN_eN, dL_eL, dI_eI, dL_eN, dI_eN, dN_eL, dI_eL, dN_eI, dL_eI, nS, nW, nJ, nL, nP, nO, nU, bas, wSh, wDr, jSh, lSh, lNm, pSh, pOp, oSh, oLb, oNm, uSh, uNm, uFr, uTo, wX, wY, wX2, wY2, jX, jY, lX, lY, pX, pY, par, pPt, rnk] using h_)
    rw [(A 816 (by omega) (by omega) (by decide) (by omega) (by omega) (by omega)).1, (A 817 (by omega) (by omega) (by decide) (by omega) (by omega) (by omega)).1, (A 818 (by omega) (by omega) (by decide) (by omega) (by omega) (by omega)).2]
    simpa [dLa, dN_eN, dL_eL, dI_eI, dL_eN, dI_eN, dN_eL, dI_eL, dN_eI, dL_eI, nS, nW, nJ, nL, nP, nO, nU, bas, wSh, wDr, jSh, lSh, lNm, pSh, pOp, oSh, oLb, oNm, uSh, uNm, uFr, uTo, wX, wY, wX2, wY2, jX, jY, lX, lY, pX, pY, par, pPt, rnk] using o_
  · intro p_ h_
    have o_ := D.2.2.2.2.2.1.2 p_ h_
    rw [(A 819 (by omega) (by omega) (by decide) (by omega) (by omega) (by omega)).1]
    simpa [dLa, dN_eN, dL_eL, dI_eI, dL_eN, dI_eN, dN_eL, dI_eL, dN_eI, dL_eI, nS, nW, nJ, nL, nP, nO, nU, bas, wSh, wDr, jSh, lSh, lNm, pSh, pOp, oSh, oLb, oNm, uSh, uNm, uFr, uTo, wX, wY, wX2, wY2, jX, jY, lX, lY, pX, pY, par, pPt, rnk] using o_
  · intro k_ h_
    have o_ := D.2.2.2.2.2.2.1 k_ (by simpa [dLa, dN_eN, dL_eL, dI_eI, dL_eN, dI_eN, dN_eL, dI_eL, dN_eI, dL_eI, nS, nW, nJ, nL, nP, nO, nU, bas, wSh, wDr, jSh, lSh, lNm, pSh, pOp, oSh, oLb, oNm, uSh, uNm, uFr, uTo, wX, wY, wX2, wY2, jX, jY, lX, lY, pX, pY, par, pPt, rnk] using h_)
    rw [(A 821 (by omega) (by omega) (by decide) (by omega) (by omega) (by omega)).1]
    simpa [dLa, dN_eN, dL_eL, dI_eI, dL_eN, dI_eN, dN_eL, dI_eL, dN_eI, dL_eI, nS, nW, nJ, nL, nP, nO, nU, bas, wSh, wDr, jSh, lSh, lNm, pSh, pOp, oSh, oLb, oNm, uSh, uNm, uFr, uTo, wX, wY, wX2, wY2, jX, jY, lX, lY, pX, pY, par, pPt, rnk] using o_
  · intro b_ h_
    have o_ := D.2.2.2.2.2.2.2.1 b_ (by simpa [dLa, dN_eN, dL_eL, dI_eI, dL_eN, dI_eN, dN_eL, dI_eL, dN_eI, dL_eI, nS, nW, nJ, nL, nP, nO, nU, bas, wSh, wDr, jSh, lSh, lNm, pSh, pOp, oSh, oLb, oNm, uSh, uNm, uFr, uTo, wX, wY, wX2, wY2, jX, jY, lX, lY, pX, pY, par, pPt, rnk] using h_)
    rw [(A 823 (by omega) (by omega) (by decide) (by omega) (by omega) (by omega)).1]
    simpa [dLa, dN_eN, dL_eL, dI_eI, dL_eN, dI_eN, dN_eL, dI_eL, dN_eI, dL_eI, nS, nW, nJ, nL, nP, nO, nU, bas, wSh, wDr, jSh, lSh, lNm, pSh, pOp, oSh, oLb, oNm, uSh, uNm, uFr, uTo, wX, wY, wX2, wY2, jX, jY, lX, lY, pX, pY, par, pPt, rnk] using o_
  · intro n_ h_
    have o_ := D.2.2.2.2.2.2.2.2 n_ h_
    rw [(A 824 (by omega) (by omega) (by decide) (by omega) (by omega) (by omega)).1]
    simpa [dLa, dN_eN, dL_eL, dI_eI, dL_eN, dI_eN, dN_eL, dI_eL, dN_eI, dL_eI, nS, nW, nJ, nL, nP, nO, nU, bas, wSh, wDr, jSh, lSh, lNm, pSh, pOp, oSh, oLb, oNm, uSh, uNm, uFr, uTo, wX, wY, wX2, wY2, jX, jY, lX, lY, pX, pY, par, pPt, rnk] using o_
theorem rd_pi (s : Nat) (a b : Int64) (pt : Int32) (D : RD vm R h d) (I : ∀ g, 801 ≤ g → g ≤ 822 → gI h' g vm = if g = 815 then nI (nP d + 1) else gI h g vm) (A : ∀ g, 802 ≤ g → g ≤ 824 → rK g ≠ 0 → g ≠ 816 → g ≠ 817 → g ≠ 818 → gA h' (R g) = gA h (R g) ∧ gL h' (R g) = gL h (R g)) (x2 : ∀ j, gA h' (R 816) j = if j = nP d then nI s else gA h (R 816) j) (x4 : ∀ j, gA h' (R 817) j = if j = nP d then pt else gA h (R 817) j) (x3 : ∀ j, gL h' (R 818) j = if j = 2 * nP d + 1 then b else if j = 2 * nP d then a else gL h (R 818) j) : RD vm R h' (dPi d s a b pt) := by
  refine ⟨⟨?_, ?_, ?_, ?_, ?_, ?_, ?_⟩, ?_, ⟨?_, ?_⟩, ?_, ?_, ⟨?_, ?_⟩, ?_, ?_, ?_⟩
  · rw [I 801 (by omega) (by omega), if_neg (by omega), D.1.1]; simp [dPi, dN_eN, dL_eL, dI_eI, dL_eN, dI_eN, dN_eL, dI_eL, dN_eI, dL_eI, nS, nW, nJ, nL, nP, nO, nU, bas, wSh, wDr, jSh, lSh, lNm, pSh, pOp, oSh, oLb, oNm, uSh, uNm, uFr, uTo, wX, wY, wX2, wY2, jX, jY, lX, lY, pX, pY, par, pPt, rnk]
  · rw [I 804 (by omega) (by omega), if_neg (by omega), D.1.2.1]; simp [dPi, dN_eN, dL_eL, dI_eI, dL_eN, dI_eN, dN_eL, dI_eL, dN_eI, dL_eI, nS, nW, nJ, nL, nP, nO, nU, bas, wSh, wDr, jSh, lSh, lNm, pSh, pOp, oSh, oLb, oNm, uSh, uNm, uFr, uTo, wX, wY, wX2, wY2, jX, jY, lX, lY, pX, pY, par, pPt, rnk]
  · rw [I 808 (by omega) (by omega), if_neg (by omega), D.1.2.2.1]; simp [dPi, dN_eN, dL_eL, dI_eI, dL_eN, dI_eN, dN_eL, dI_eL, dN_eI, dL_eI, nS, nW, nJ, nL, nP, nO, nU, bas, wSh, wDr, jSh, lSh, lNm, pSh, pOp, oSh, oLb, oNm, uSh, uNm, uFr, uTo, wX, wY, wX2, wY2, jX, jY, lX, lY, pX, pY, par, pPt, rnk]
  · rw [I 811 (by omega) (by omega), if_neg (by omega), D.1.2.2.2.1]; simp [dPi, dN_eN, dL_eL, dI_eI, dL_eN, dI_eN, dN_eL, dI_eL, dN_eI, dL_eI, nS, nW, nJ, nL, nP, nO, nU, bas, wSh, wDr, jSh, lSh, lNm, pSh, pOp, oSh, oLb, oNm, uSh, uNm, uFr, uTo, wX, wY, wX2, wY2, jX, jY, lX, lY, pX, pY, par, pPt, rnk]
  · rw [I 815 (by omega) (by omega), if_pos rfl]; simp [dPi, dN_eN, dL_eL, dI_eI, dL_eN, dI_eN, dN_eL, dI_eL, dN_eI, dL_eI, nS, nW, nJ, nL, nP, nO, nU, bas, wSh, wDr, jSh, lSh, lNm, pSh, pOp, oSh, oLb, oNm, uSh, uNm, uFr, uTo, wX, wY, wX2, wY2, jX, jY, lX, lY, pX, pY, par, pPt, rnk]
  · rw [I 820 (by omega) (by omega), if_neg (by omega), D.1.2.2.2.2.2.1]; simp [dPi, dN_eN, dL_eL, dI_eI, dL_eN, dI_eN, dN_eL, dI_eL, dN_eI, dL_eI, nS, nW, nJ, nL, nP, nO, nU, bas, wSh, wDr, jSh, lSh, lNm, pSh, pOp, oSh, oLb, oNm, uSh, uNm, uFr, uTo, wX, wY, wX2, wY2, jX, jY, lX, lY, pX, pY, par, pPt, rnk]
  · rw [I 822 (by omega) (by omega), if_neg (by omega), D.1.2.2.2.2.2.2]; simp [dPi, dN_eN, dL_eL, dI_eI, dL_eN, dI_eN, dN_eL, dI_eL, dN_eI, dL_eI, nS, nW, nJ, nL, nP, nO, nU, bas, wSh, wDr, jSh, lSh, lNm, pSh, pOp, oSh, oLb, oNm, uSh, uNm, uFr, uTo, wX, wY, wX2, wY2, jX, jY, lX, lY, pX, pY, par, pPt, rnk]
  · intro t_ h_
    have o_ := D.2.1 t_ (by simpa [dPi, dN_eN, dL_eL, dI_eI, dL_eN, dI_eN, dN_eL, dI_eL, dN_eI, dL_eI, nS, nW, nJ, nL, nP, nO, nU, bas, wSh, wDr, jSh, lSh, lNm, pSh, pOp, oSh, oLb, oNm, uSh, uNm, uFr, uTo, wX, wY, wX2, wY2, jX, jY, lX, lY, pX, pY, par, pPt, rnk] using h_)
    rw [(A 802 (by omega) (by omega) (by decide) (by omega) (by omega) (by omega)).1, (A 803 (by omega) (by omega) (by decide) (by omega) (by omega) (by omega)).1]
    simpa [dPi, dN_eN, dL_eL, dI_eI, dL_eN, dI_eN, dN_eL, dI_eL, dN_eI, dL_eI, nS, nW, nJ, nL, nP, nO, nU, bas, wSh, wDr, jSh, lSh, lNm, pSh, pOp, oSh, oLb, oNm, uSh, uNm, uFr, uTo, wX, wY, wX2, wY2, jX, jY, lX, lY, pX, pY, par, pPt, rnk] using o_
  · intro w_ h_
    have o_ := D.2.2.1.1 w_ (by simpa [dPi, dN_eN, dL_eL, dI_eI, dL_eN, dI_eN, dN_eL, dI_eL, dN_eI, dL_eI, nS, nW, nJ, nL, nP, nO, nU, bas, wSh, wDr, jSh, lSh, lNm, pSh, pOp, oSh, oLb, oNm, uSh, uNm, uFr, uTo, wX, wY, wX2, wY2, jX, jY, lX, lY, pX, pY, par, pPt, rnk] using h_)
    rw [(A 805 (by omega) (by omega) (by decide) (by omega) (by omega) (by omega)).1, (A 806 (by omega) (by omega) (by decide) (by omega) (by omega) (by omega)).2]
    simpa [dPi, dN_eN, dL_eL, dI_eI, dL_eN, dI_eN, dN_eL, dI_eL, dN_eI, dL_eI, nS, nW, nJ, nL, nP, nO, nU, bas, wSh, wDr, jSh, lSh, lNm, pSh, pOp, oSh, oLb, oNm, uSh, uNm, uFr, uTo, wX, wY, wX2, wY2, jX, jY, lX, lY, pX, pY, par, pPt, rnk] using o_
  · intro w_ h_
    have o_ := D.2.2.1.2 w_ h_
    rw [(A 807 (by omega) (by omega) (by decide) (by omega) (by omega) (by omega)).1]
    simpa [dPi, dN_eN, dL_eL, dI_eI, dL_eN, dI_eN, dN_eL, dI_eL, dN_eI, dL_eI, nS, nW, nJ, nL, nP, nO, nU, bas, wSh, wDr, jSh, lSh, lNm, pSh, pOp, oSh, oLb, oNm, uSh, uNm, uFr, uTo, wX, wY, wX2, wY2, jX, jY, lX, lY, pX, pY, par, pPt, rnk] using o_
  · intro k_ h_
    have o_ := D.2.2.2.1 k_ (by simpa [dPi, dN_eN, dL_eL, dI_eI, dL_eN, dI_eN, dN_eL, dI_eL, dN_eI, dL_eI, nS, nW, nJ, nL, nP, nO, nU, bas, wSh, wDr, jSh, lSh, lNm, pSh, pOp, oSh, oLb, oNm, uSh, uNm, uFr, uTo, wX, wY, wX2, wY2, jX, jY, lX, lY, pX, pY, par, pPt, rnk] using h_)
    rw [(A 809 (by omega) (by omega) (by decide) (by omega) (by omega) (by omega)).1, (A 810 (by omega) (by omega) (by decide) (by omega) (by omega) (by omega)).2]
    simpa [dPi, dN_eN, dL_eL, dI_eI, dL_eN, dI_eN, dN_eL, dI_eL, dN_eI, dL_eI, nS, nW, nJ, nL, nP, nO, nU, bas, wSh, wDr, jSh, lSh, lNm, pSh, pOp, oSh, oLb, oNm, uSh, uNm, uFr, uTo, wX, wY, wX2, wY2, jX, jY, lX, lY, pX, pY, par, pPt, rnk] using o_
  · intro l_ h_
    have o_ := D.2.2.2.2.1 l_ (by simpa [dPi, dN_eN, dL_eL, dI_eI, dL_eN, dI_eN, dN_eL, dI_eL, dN_eI, dL_eI, nS, nW, nJ, nL, nP, nO, nU, bas, wSh, wDr, jSh, lSh, lNm, pSh, pOp, oSh, oLb, oNm, uSh, uNm, uFr, uTo, wX, wY, wX2, wY2, jX, jY, lX, lY, pX, pY, par, pPt, rnk] using h_)
    rw [(A 812 (by omega) (by omega) (by decide) (by omega) (by omega) (by omega)).1, (A 813 (by omega) (by omega) (by decide) (by omega) (by omega) (by omega)).1, (A 814 (by omega) (by omega) (by decide) (by omega) (by omega) (by omega)).2]
    simpa [dPi, dN_eN, dL_eL, dI_eI, dL_eN, dI_eN, dN_eL, dI_eL, dN_eI, dL_eI, nS, nW, nJ, nL, nP, nO, nU, bas, wSh, wDr, jSh, lSh, lNm, pSh, pOp, oSh, oLb, oNm, uSh, uNm, uFr, uTo, wX, wY, wX2, wY2, jX, jY, lX, lY, pX, pY, par, pPt, rnk] using o_
  · intro p_ h_
    have h1_ : p_ < nP d + 1 := by simpa [dPi, dN_eN, dL_eL, dI_eI, dL_eN, dI_eN, dN_eL, dI_eL, dN_eI, dL_eI, nS, nW, nJ, nL, nP, nO, nU, bas, wSh, wDr, jSh, lSh, lNm, pSh, pOp, oSh, oLb, oNm, uSh, uNm, uFr, uTo, wX, wY, wX2, wY2, jX, jY, lX, lY, pX, pY, par, pPt, rnk] using h_
    by_cases e_ : p_ = nP d
    · subst e_
      rw [x2, x4, x3, x3]
      simp [dPi, dN_eN, dL_eL, dI_eI, dL_eN, dI_eN, dN_eL, dI_eL, dN_eI, dL_eI, nS, nW, nJ, nL, nP, nO, nU, bas, wSh, wDr, jSh, lSh, lNm, pSh, pOp, oSh, oLb, oNm, uSh, uNm, uFr, uTo, wX, wY, wX2, wY2, jX, jY, lX, lY, pX, pY, par, pPt, rnk]
    · have lt_ : p_ < nP d := by omega
      have o_ := D.2.2.2.2.2.1.1 p_ lt_
      have ne_ : p_ ≠ dN d 0 4 := e_
      rw [x2, x4, x3, x3]
      simp only [nS, nW, nJ, nL, nP, nO, nU, bas, wSh, wDr, jSh, lSh, lNm, pSh, pOp, oSh, oLb, oNm, uSh, uNm, uFr, uTo, wX, wY, wX2, wY2, jX, jY, lX, lY, pX, pY, par, pPt, rnk] at e_ lt_ ⊢
      repeat rw [if_neg (by omega)]
      simpa [dPi, dN_eN, dL_eL, dI_eI, dL_eN, dI_eN, dN_eL, dI_eL, dN_eI, dL_eI, nS, nW, nJ, nL, nP, nO, nU, bas, wSh, wDr, jSh, lSh, lNm, pSh, pOp, oSh, oLb, oNm, uSh, uNm, uFr, uTo, wX, wY, wX2, wY2, jX, jY, lX, lY, pX, pY, par, pPt, rnk, ne_] using o_
  · intro p_ h_
    have o_ := D.2.2.2.2.2.1.2 p_ h_
    rw [(A 819 (by omega) (by omega) (by decide) (by omega) (by omega) (by omega)).1]
    simpa [dPi, dN_eN, dL_eL, dI_eI, dL_eN, dI_eN, dN_eL, dI_eL, dN_eI, dL_eI, nS, nW, nJ, nL, nP, nO, nU, bas, wSh, wDr, jSh, lSh, lNm, pSh, pOp, oSh, oLb, oNm, uSh, uNm, uFr, uTo, wX, wY, wX2, wY2, jX, jY, lX, lY, pX, pY, par, pPt, rnk] using o_
  · intro k_ h_
    have o_ := D.2.2.2.2.2.2.1 k_ (by simpa [dPi, dN_eN, dL_eL, dI_eI, dL_eN, dI_eN, dN_eL, dI_eL, dN_eI, dL_eI, nS, nW, nJ, nL, nP, nO, nU, bas, wSh, wDr, jSh, lSh, lNm, pSh, pOp, oSh, oLb, oNm, uSh, uNm, uFr, uTo, wX, wY, wX2, wY2, jX, jY, lX, lY, pX, pY, par, pPt, rnk] using h_)
    rw [(A 821 (by omega) (by omega) (by decide) (by omega) (by omega) (by omega)).1]
    simpa [dPi, dN_eN, dL_eL, dI_eI, dL_eN, dI_eN, dN_eL, dI_eL, dN_eI, dL_eI, nS, nW, nJ, nL, nP, nO, nU, bas, wSh, wDr, jSh, lSh, lNm, pSh, pOp, oSh, oLb, oNm, uSh, uNm, uFr, uTo, wX, wY, wX2, wY2, jX, jY, lX, lY, pX, pY, par, pPt, rnk] using o_
  · intro b_ h_
    have o_ := D.2.2.2.2.2.2.2.1 b_ (by simpa [dPi, dN_eN, dL_eL, dI_eI, dL_eN, dI_eN, dN_eL, dI_eL, dN_eI, dL_eI, nS, nW, nJ, nL, nP, nO, nU, bas, wSh, wDr, jSh, lSh, lNm, pSh, pOp, oSh, oLb, oNm, uSh, uNm, uFr, uTo, wX, wY, wX2, wY2, jX, jY, lX, lY, pX, pY, par, pPt, rnk] using h_)
    rw [(A 823 (by omega) (by omega) (by decide) (by omega) (by omega) (by omega)).1]
    simpa [dPi, dN_eN, dL_eL, dI_eI, dL_eN, dI_eN, dN_eL, dI_eL, dN_eI, dL_eI, nS, nW, nJ, nL, nP, nO, nU, bas, wSh, wDr, jSh, lSh, lNm, pSh, pOp, oSh, oLb, oNm, uSh, uNm, uFr, uTo, wX, wY, wX2, wY2, jX, jY, lX, lY, pX, pY, par, pPt, rnk] using o_
  · intro n_ h_
    have o_ := D.2.2.2.2.2.2.2.2 n_ h_
    rw [(A 824 (by omega) (by omega) (by decide) (by omega) (by omega) (by omega)).1]
    simpa [dPi, dN_eN, dL_eL, dI_eI, dL_eN, dI_eN, dN_eL, dI_eL, dN_eI, dL_eI, nS, nW, nJ, nL, nP, nO, nU, bas, wSh, wDr, jSh, lSh, lNm, pSh, pOp, oSh, oLb, oNm, uSh, uNm, uFr, uTo, wX, wY, wX2, wY2, jX, jY, lX, lY, pX, pY, par, pPt, rnk] using o_
theorem rd_po (s l nm : Nat) (D : RD vm R h d) (I : ∀ g, 801 ≤ g → g ≤ 822 → gI h' g vm = if g = 820 then nI (nO d + 1) else gI h g vm) (A : ∀ g, 802 ≤ g → g ≤ 824 → rK g ≠ 0 → g ≠ 821 → gA h' (R g) = gA h (R g) ∧ gL h' (R g) = gL h (R g)) (x2 : ∀ j, gA h' (R 821) j = if j = 3 * nO d + 2 then nI nm else if j = 3 * nO d + 1 then nI l else if j = 3 * nO d then nI s else gA h (R 821) j) : RD vm R h' (dPo d s l nm) := by
  refine ⟨⟨?_, ?_, ?_, ?_, ?_, ?_, ?_⟩, ?_, ⟨?_, ?_⟩, ?_, ?_, ⟨?_, ?_⟩, ?_, ?_, ?_⟩
  · rw [I 801 (by omega) (by omega), if_neg (by omega), D.1.1]; simp [dPo, dN_eN, dL_eL, dI_eI, dL_eN, dI_eN, dN_eL, dI_eL, dN_eI, dL_eI, nS, nW, nJ, nL, nP, nO, nU, bas, wSh, wDr, jSh, lSh, lNm, pSh, pOp, oSh, oLb, oNm, uSh, uNm, uFr, uTo, wX, wY, wX2, wY2, jX, jY, lX, lY, pX, pY, par, pPt, rnk]
  · rw [I 804 (by omega) (by omega), if_neg (by omega), D.1.2.1]; simp [dPo, dN_eN, dL_eL, dI_eI, dL_eN, dI_eN, dN_eL, dI_eL, dN_eI, dL_eI, nS, nW, nJ, nL, nP, nO, nU, bas, wSh, wDr, jSh, lSh, lNm, pSh, pOp, oSh, oLb, oNm, uSh, uNm, uFr, uTo, wX, wY, wX2, wY2, jX, jY, lX, lY, pX, pY, par, pPt, rnk]
  · rw [I 808 (by omega) (by omega), if_neg (by omega), D.1.2.2.1]; simp [dPo, dN_eN, dL_eL, dI_eI, dL_eN, dI_eN, dN_eL, dI_eL, dN_eI, dL_eI, nS, nW, nJ, nL, nP, nO, nU, bas, wSh, wDr, jSh, lSh, lNm, pSh, pOp, oSh, oLb, oNm, uSh, uNm, uFr, uTo, wX, wY, wX2, wY2, jX, jY, lX, lY, pX, pY, par, pPt, rnk]
  · rw [I 811 (by omega) (by omega), if_neg (by omega), D.1.2.2.2.1]; simp [dPo, dN_eN, dL_eL, dI_eI, dL_eN, dI_eN, dN_eL, dI_eL, dN_eI, dL_eI, nS, nW, nJ, nL, nP, nO, nU, bas, wSh, wDr, jSh, lSh, lNm, pSh, pOp, oSh, oLb, oNm, uSh, uNm, uFr, uTo, wX, wY, wX2, wY2, jX, jY, lX, lY, pX, pY, par, pPt, rnk]
  · rw [I 815 (by omega) (by omega), if_neg (by omega), D.1.2.2.2.2.1]; simp [dPo, dN_eN, dL_eL, dI_eI, dL_eN, dI_eN, dN_eL, dI_eL, dN_eI, dL_eI, nS, nW, nJ, nL, nP, nO, nU, bas, wSh, wDr, jSh, lSh, lNm, pSh, pOp, oSh, oLb, oNm, uSh, uNm, uFr, uTo, wX, wY, wX2, wY2, jX, jY, lX, lY, pX, pY, par, pPt, rnk]
  · rw [I 820 (by omega) (by omega), if_pos rfl]; simp [dPo, dN_eN, dL_eL, dI_eI, dL_eN, dI_eN, dN_eL, dI_eL, dN_eI, dL_eI, nS, nW, nJ, nL, nP, nO, nU, bas, wSh, wDr, jSh, lSh, lNm, pSh, pOp, oSh, oLb, oNm, uSh, uNm, uFr, uTo, wX, wY, wX2, wY2, jX, jY, lX, lY, pX, pY, par, pPt, rnk]
  · rw [I 822 (by omega) (by omega), if_neg (by omega), D.1.2.2.2.2.2.2]; simp [dPo, dN_eN, dL_eL, dI_eI, dL_eN, dI_eN, dN_eL, dI_eL, dN_eI, dL_eI, nS, nW, nJ, nL, nP, nO, nU, bas, wSh, wDr, jSh, lSh, lNm, pSh, pOp, oSh, oLb, oNm, uSh, uNm, uFr, uTo, wX, wY, wX2, wY2, jX, jY, lX, lY, pX, pY, par, pPt, rnk]
  · intro t_ h_
    have o_ := D.2.1 t_ (by simpa [dPo, dN_eN, dL_eL, dI_eI, dL_eN, dI_eN, dN_eL, dI_eL, dN_eI, dL_eI, nS, nW, nJ, nL, nP, nO, nU, bas, wSh, wDr, jSh, lSh, lNm, pSh, pOp, oSh, oLb, oNm, uSh, uNm, uFr, uTo, wX, wY, wX2, wY2, jX, jY, lX, lY, pX, pY, par, pPt, rnk] using h_)
    rw [(A 802 (by omega) (by omega) (by decide) (by omega)).1, (A 803 (by omega) (by omega) (by decide) (by omega)).1]
    simpa [dPo, dN_eN, dL_eL, dI_eI, dL_eN, dI_eN, dN_eL, dI_eL, dN_eI, dL_eI, nS, nW, nJ, nL, nP, nO, nU, bas, wSh, wDr, jSh, lSh, lNm, pSh, pOp, oSh, oLb, oNm, uSh, uNm, uFr, uTo, wX, wY, wX2, wY2, jX, jY, lX, lY, pX, pY, par, pPt, rnk] using o_
  · intro w_ h_
    have o_ := D.2.2.1.1 w_ (by simpa [dPo, dN_eN, dL_eL, dI_eI, dL_eN, dI_eN, dN_eL, dI_eL, dN_eI, dL_eI, nS, nW, nJ, nL, nP, nO, nU, bas, wSh, wDr, jSh, lSh, lNm, pSh, pOp, oSh, oLb, oNm, uSh, uNm, uFr, uTo, wX, wY, wX2, wY2, jX, jY, lX, lY, pX, pY, par, pPt, rnk] using h_)
    rw [(A 805 (by omega) (by omega) (by decide) (by omega)).1, (A 806 (by omega) (by omega) (by decide) (by omega)).2]
    simpa [dPo, dN_eN, dL_eL, dI_eI, dL_eN, dI_eN, dN_eL, dI_eL, dN_eI, dL_eI, nS, nW, nJ, nL, nP, nO, nU, bas, wSh, wDr, jSh, lSh, lNm, pSh, pOp, oSh, oLb, oNm, uSh, uNm, uFr, uTo, wX, wY, wX2, wY2, jX, jY, lX, lY, pX, pY, par, pPt, rnk] using o_
  · intro w_ h_
    have o_ := D.2.2.1.2 w_ h_
    rw [(A 807 (by omega) (by omega) (by decide) (by omega)).1]
    simpa [dPo, dN_eN, dL_eL, dI_eI, dL_eN, dI_eN, dN_eL, dI_eL, dN_eI, dL_eI, nS, nW, nJ, nL, nP, nO, nU, bas, wSh, wDr, jSh, lSh, lNm, pSh, pOp, oSh, oLb, oNm, uSh, uNm, uFr, uTo, wX, wY, wX2, wY2, jX, jY, lX, lY, pX, pY, par, pPt, rnk] using o_
  · intro k_ h_
    have o_ := D.2.2.2.1 k_ (by simpa [dPo, dN_eN, dL_eL, dI_eI, dL_eN, dI_eN, dN_eL, dI_eL, dN_eI, dL_eI, nS, nW, nJ, nL, nP, nO, nU, bas, wSh, wDr, jSh, lSh, lNm, pSh, pOp, oSh, oLb, oNm, uSh, uNm, uFr, uTo, wX, wY, wX2, wY2, jX, jY, lX, lY, pX, pY, par, pPt, rnk] using h_)
    rw [(A 809 (by omega) (by omega) (by decide) (by omega)).1, (A 810 (by omega) (by omega) (by decide) (by omega)).2]
    simpa [dPo, dN_eN, dL_eL, dI_eI, dL_eN, dI_eN, dN_eL, dI_eL, dN_eI, dL_eI, nS, nW, nJ, nL, nP, nO, nU, bas, wSh, wDr, jSh, lSh, lNm, pSh, pOp, oSh, oLb, oNm, uSh, uNm, uFr, uTo, wX, wY, wX2, wY2, jX, jY, lX, lY, pX, pY, par, pPt, rnk] using o_
  · intro l_ h_
    have o_ := D.2.2.2.2.1 l_ (by simpa [dPo, dN_eN, dL_eL, dI_eI, dL_eN, dI_eN, dN_eL, dI_eL, dN_eI, dL_eI, nS, nW, nJ, nL, nP, nO, nU, bas, wSh, wDr, jSh, lSh, lNm, pSh, pOp, oSh, oLb, oNm, uSh, uNm, uFr, uTo, wX, wY, wX2, wY2, jX, jY, lX, lY, pX, pY, par, pPt, rnk] using h_)
    rw [(A 812 (by omega) (by omega) (by decide) (by omega)).1, (A 813 (by omega) (by omega) (by decide) (by omega)).1, (A 814 (by omega) (by omega) (by decide) (by omega)).2]
    simpa [dPo, dN_eN, dL_eL, dI_eI, dL_eN, dI_eN, dN_eL, dI_eL, dN_eI, dL_eI, nS, nW, nJ, nL, nP, nO, nU, bas, wSh, wDr, jSh, lSh, lNm, pSh, pOp, oSh, oLb, oNm, uSh, uNm, uFr, uTo, wX, wY, wX2, wY2, jX, jY, lX, lY, pX, pY, par, pPt, rnk] using o_
  · intro p_ h_
    have o_ := D.2.2.2.2.2.1.1 p_ (by simpa [dPo, dN_eN, dL_eL, dI_eI, dL_eN, dI_eN, dN_eL, dI_eL, dN_eI, dL_eI, nS, nW, nJ, nL, nP, nO, nU, bas, wSh, wDr, jSh, lSh, lNm, pSh, pOp, oSh, oLb, oNm, uSh, uNm, uFr, uTo, wX, wY, wX2, wY2, jX, jY, lX, lY, pX, pY, par, pPt, rnk] using h_)
    rw [(A 816 (by omega) (by omega) (by decide) (by omega)).1, (A 817 (by omega) (by omega) (by decide) (by omega)).1, (A 818 (by omega) (by omega) (by decide) (by omega)).2]
    simpa [dPo, dN_eN, dL_eL, dI_eI, dL_eN, dI_eN, dN_eL, dI_eL, dN_eI, dL_eI, nS, nW, nJ, nL, nP, nO, nU, bas, wSh, wDr, jSh, lSh, lNm, pSh, pOp, oSh, oLb, oNm, uSh, uNm, uFr, uTo, wX, wY, wX2, wY2, jX, jY, lX, lY, pX, pY, par, pPt, rnk] using o_
  · intro p_ h_
    have o_ := D.2.2.2.2.2.1.2 p_ h_
    rw [(A 819 (by omega) (by omega) (by decide) (by omega)).1]
    simpa [dPo, dN_eN, dL_eL, dI_eI, dL_eN, dI_eN, dN_eL, dI_eL, dN_eI, dL_eI, nS, nW, nJ, nL, nP, nO, nU, bas, wSh, wDr, jSh, lSh, lNm, pSh, pOp, oSh, oLb, oNm, uSh, uNm, uFr, uTo, wX, wY, wX2, wY2, jX, jY, lX, lY, pX, pY, par, pPt, rnk] using o_
  · intro k_ h_
    have h1_ : k_ < nO d + 1 := by simpa [dPo, dN_eN, dL_eL, dI_eI, dL_eN, dI_eN, dN_eL, dI_eL, dN_eI, dL_eI, nS, nW, nJ, nL, nP, nO, nU, bas, wSh, wDr, jSh, lSh, lNm, pSh, pOp, oSh, oLb, oNm, uSh, uNm, uFr, uTo, wX, wY, wX2, wY2, jX, jY, lX, lY, pX, pY, par, pPt, rnk] using h_
    by_cases e_ : k_ = nO d
    · subst e_
      rw [x2, x2, x2]
      simp [dPo, dN_eN, dL_eL, dI_eI, dL_eN, dI_eN, dN_eL, dI_eL, dN_eI, dL_eI, nS, nW, nJ, nL, nP, nO, nU, bas, wSh, wDr, jSh, lSh, lNm, pSh, pOp, oSh, oLb, oNm, uSh, uNm, uFr, uTo, wX, wY, wX2, wY2, jX, jY, lX, lY, pX, pY, par, pPt, rnk]
    · have lt_ : k_ < nO d := by omega
      have o_ := D.2.2.2.2.2.2.1 k_ lt_
      have ne_ : k_ ≠ dN d 0 5 := e_
      rw [x2, x2, x2]
      simp only [nS, nW, nJ, nL, nP, nO, nU, bas, wSh, wDr, jSh, lSh, lNm, pSh, pOp, oSh, oLb, oNm, uSh, uNm, uFr, uTo, wX, wY, wX2, wY2, jX, jY, lX, lY, pX, pY, par, pPt, rnk] at e_ lt_ ⊢
      repeat rw [if_neg (by omega)]
      simpa [dPo, dN_eN, dL_eL, dI_eI, dL_eN, dI_eN, dN_eL, dI_eL, dN_eI, dL_eI, nS, nW, nJ, nL, nP, nO, nU, bas, wSh, wDr, jSh, lSh, lNm, pSh, pOp, oSh, oLb, oNm, uSh, uNm, uFr, uTo, wX, wY, wX2, wY2, jX, jY, lX, lY, pX, pY, par, pPt, rnk, ne_] using o_
  · intro b_ h_
    have o_ := D.2.2.2.2.2.2.2.1 b_ (by simpa [dPo, dN_eN, dL_eL, dI_eI, dL_eN, dI_eN, dN_eL, dI_eL, dN_eI, dL_eI, nS, nW, nJ, nL, nP, nO, nU, bas, wSh, wDr, jSh, lSh, lNm, pSh, pOp, oSh, oLb, oNm, uSh, uNm, uFr, uTo, wX, wY, wX2, wY2, jX, jY, lX, lY, pX, pY, par, pPt, rnk] using h_)
    rw [(A 823 (by omega) (by omega) (by decide) (by omega)).1]
    simpa [dPo, dN_eN, dL_eL, dI_eI, dL_eN, dI_eN, dN_eL, dI_eL, dN_eI, dL_eI, nS, nW, nJ, nL, nP, nO, nU, bas, wSh, wDr, jSh, lSh, lNm, pSh, pOp, oSh, oLb, oNm, uSh, uNm, uFr, uTo, wX, wY, wX2, wY2, jX, jY, lX, lY, pX, pY, par, pPt, rnk] using o_
  · intro n_ h_
    have o_ := D.2.2.2.2.2.2.2.2 n_ h_
    rw [(A 824 (by omega) (by omega) (by decide) (by omega)).1]
    simpa [dPo, dN_eN, dL_eL, dI_eI, dL_eN, dI_eN, dN_eL, dI_eL, dN_eI, dL_eI, nS, nW, nJ, nL, nP, nO, nU, bas, wSh, wDr, jSh, lSh, lNm, pSh, pOp, oSh, oLb, oNm, uSh, uNm, uFr, uTo, wX, wY, wX2, wY2, jX, jY, lX, lY, pX, pY, par, pPt, rnk] using o_
theorem rd_bu (s nm f t : Nat) (D : RD vm R h d) (I : ∀ g, 801 ≤ g → g ≤ 822 → gI h' g vm = if g = 822 then nI (nU d + 1) else gI h g vm) (A : ∀ g, 802 ≤ g → g ≤ 824 → rK g ≠ 0 → g ≠ 823 → gA h' (R g) = gA h (R g) ∧ gL h' (R g) = gL h (R g)) (x2 : ∀ j, gA h' (R 823) j = if j = 4 * nU d + 3 then nI t else if j = 4 * nU d + 2 then nI f else if j = 4 * nU d + 1 then nI nm else if j = 4 * nU d then nI s else gA h (R 823) j) : RD vm R h' (dBu d s nm f t) := by
  refine ⟨⟨?_, ?_, ?_, ?_, ?_, ?_, ?_⟩, ?_, ⟨?_, ?_⟩, ?_, ?_, ⟨?_, ?_⟩, ?_, ?_, ?_⟩
  · rw [I 801 (by omega) (by omega), if_neg (by omega), D.1.1]; simp [dBu, dN_eN, dL_eL, dI_eI, dL_eN, dI_eN, dN_eL, dI_eL, dN_eI, dL_eI, nS, nW, nJ, nL, nP, nO, nU, bas, wSh, wDr, jSh, lSh, lNm, pSh, pOp, oSh, oLb, oNm, uSh, uNm, uFr, uTo, wX, wY, wX2, wY2, jX, jY, lX, lY, pX, pY, par, pPt, rnk]
  · rw [I 804 (by omega) (by omega), if_neg (by omega), D.1.2.1]; simp [dBu, dN_eN, dL_eL, dI_eI, dL_eN, dI_eN, dN_eL, dI_eL, dN_eI, dL_eI, nS, nW, nJ, nL, nP, nO, nU, bas, wSh, wDr, jSh, lSh, lNm, pSh, pOp, oSh, oLb, oNm, uSh, uNm, uFr, uTo, wX, wY, wX2, wY2, jX, jY, lX, lY, pX, pY, par, pPt, rnk]
  · rw [I 808 (by omega) (by omega), if_neg (by omega), D.1.2.2.1]; simp [dBu, dN_eN, dL_eL, dI_eI, dL_eN, dI_eN, dN_eL, dI_eL, dN_eI, dL_eI, nS, nW, nJ, nL, nP, nO, nU, bas, wSh, wDr, jSh, lSh, lNm, pSh, pOp, oSh, oLb, oNm, uSh, uNm, uFr, uTo, wX, wY, wX2, wY2, jX, jY, lX, lY, pX, pY, par, pPt, rnk]
  · rw [I 811 (by omega) (by omega), if_neg (by omega), D.1.2.2.2.1]; simp [dBu, dN_eN, dL_eL, dI_eI, dL_eN, dI_eN, dN_eL, dI_eL, dN_eI, dL_eI, nS, nW, nJ, nL, nP, nO, nU, bas, wSh, wDr, jSh, lSh, lNm, pSh, pOp, oSh, oLb, oNm, uSh, uNm, uFr, uTo, wX, wY, wX2, wY2, jX, jY, lX, lY, pX, pY, par, pPt, rnk]
  · rw [I 815 (by omega) (by omega), if_neg (by omega), D.1.2.2.2.2.1]; simp [dBu, dN_eN, dL_eL, dI_eI, dL_eN, dI_eN, dN_eL, dI_eL, dN_eI, dL_eI, nS, nW, nJ, nL, nP, nO, nU, bas, wSh, wDr, jSh, lSh, lNm, pSh, pOp, oSh, oLb, oNm, uSh, uNm, uFr, uTo, wX, wY, wX2, wY2, jX, jY, lX, lY, pX, pY, par, pPt, rnk]
  · rw [I 820 (by omega) (by omega), if_neg (by omega), D.1.2.2.2.2.2.1]; simp [dBu, dN_eN, dL_eL, dI_eI, dL_eN, dI_eN, dN_eL, dI_eL, dN_eI, dL_eI, nS, nW, nJ, nL, nP, nO, nU, bas, wSh, wDr, jSh, lSh, lNm, pSh, pOp, oSh, oLb, oNm, uSh, uNm, uFr, uTo, wX, wY, wX2, wY2, jX, jY, lX, lY, pX, pY, par, pPt, rnk]
  · rw [I 822 (by omega) (by omega), if_pos rfl]; simp [dBu, dN_eN, dL_eL, dI_eI, dL_eN, dI_eN, dN_eL, dI_eL, dN_eI, dL_eI, nS, nW, nJ, nL, nP, nO, nU, bas, wSh, wDr, jSh, lSh, lNm, pSh, pOp, oSh, oLb, oNm, uSh, uNm, uFr, uTo, wX, wY, wX2, wY2, jX, jY, lX, lY, pX, pY, par, pPt, rnk]
  · intro t_ h_
    have o_ := D.2.1 t_ (by simpa [dBu, dN_eN, dL_eL, dI_eI, dL_eN, dI_eN, dN_eL, dI_eL, dN_eI, dL_eI, nS, nW, nJ, nL, nP, nO, nU, bas, wSh, wDr, jSh, lSh, lNm, pSh, pOp, oSh, oLb, oNm, uSh, uNm, uFr, uTo, wX, wY, wX2, wY2, jX, jY, lX, lY, pX, pY, par, pPt, rnk] using h_)
    rw [(A 802 (by omega) (by omega) (by decide) (by omega)).1, (A 803 (by omega) (by omega) (by decide) (by omega)).1]
    simpa [dBu, dN_eN, dL_eL, dI_eI, dL_eN, dI_eN, dN_eL, dI_eL, dN_eI, dL_eI, nS, nW, nJ, nL, nP, nO, nU, bas, wSh, wDr, jSh, lSh, lNm, pSh, pOp, oSh, oLb, oNm, uSh, uNm, uFr, uTo, wX, wY, wX2, wY2, jX, jY, lX, lY, pX, pY, par, pPt, rnk] using o_
  · intro w_ h_
    have o_ := D.2.2.1.1 w_ (by simpa [dBu, dN_eN, dL_eL, dI_eI, dL_eN, dI_eN, dN_eL, dI_eL, dN_eI, dL_eI, nS, nW, nJ, nL, nP, nO, nU, bas, wSh, wDr, jSh, lSh, lNm, pSh, pOp, oSh, oLb, oNm, uSh, uNm, uFr, uTo, wX, wY, wX2, wY2, jX, jY, lX, lY, pX, pY, par, pPt, rnk] using h_)
    rw [(A 805 (by omega) (by omega) (by decide) (by omega)).1, (A 806 (by omega) (by omega) (by decide) (by omega)).2]
    simpa [dBu, dN_eN, dL_eL, dI_eI, dL_eN, dI_eN, dN_eL, dI_eL, dN_eI, dL_eI, nS, nW, nJ, nL, nP, nO, nU, bas, wSh, wDr, jSh, lSh, lNm, pSh, pOp, oSh, oLb, oNm, uSh, uNm, uFr, uTo, wX, wY, wX2, wY2, jX, jY, lX, lY, pX, pY, par, pPt, rnk] using o_
  · intro w_ h_
    have o_ := D.2.2.1.2 w_ h_
    rw [(A 807 (by omega) (by omega) (by decide) (by omega)).1]
    simpa [dBu, dN_eN, dL_eL, dI_eI, dL_eN, dI_eN, dN_eL, dI_eL, dN_eI, dL_eI, nS, nW, nJ, nL, nP, nO, nU, bas, wSh, wDr, jSh, lSh, lNm, pSh, pOp, oSh, oLb, oNm, uSh, uNm, uFr, uTo, wX, wY, wX2, wY2, jX, jY, lX, lY, pX, pY, par, pPt, rnk] using o_
  · intro k_ h_
    have o_ := D.2.2.2.1 k_ (by simpa [dBu, dN_eN, dL_eL, dI_eI, dL_eN, dI_eN, dN_eL, dI_eL, dN_eI, dL_eI, nS, nW, nJ, nL, nP, nO, nU, bas, wSh, wDr, jSh, lSh, lNm, pSh, pOp, oSh, oLb, oNm, uSh, uNm, uFr, uTo, wX, wY, wX2, wY2, jX, jY, lX, lY, pX, pY, par, pPt, rnk] using h_)
    rw [(A 809 (by omega) (by omega) (by decide) (by omega)).1, (A 810 (by omega) (by omega) (by decide) (by omega)).2]
    simpa [dBu, dN_eN, dL_eL, dI_eI, dL_eN, dI_eN, dN_eL, dI_eL, dN_eI, dL_eI, nS, nW, nJ, nL, nP, nO, nU, bas, wSh, wDr, jSh, lSh, lNm, pSh, pOp, oSh, oLb, oNm, uSh, uNm, uFr, uTo, wX, wY, wX2, wY2, jX, jY, lX, lY, pX, pY, par, pPt, rnk] using o_
  · intro l_ h_
    have o_ := D.2.2.2.2.1 l_ (by simpa [dBu, dN_eN, dL_eL, dI_eI, dL_eN, dI_eN, dN_eL, dI_eL, dN_eI, dL_eI, nS, nW, nJ, nL, nP, nO, nU, bas, wSh, wDr, jSh, lSh, lNm, pSh, pOp, oSh, oLb, oNm, uSh, uNm, uFr, uTo, wX, wY, wX2, wY2, jX, jY, lX, lY, pX, pY, par, pPt, rnk] using h_)
    rw [(A 812 (by omega) (by omega) (by decide) (by omega)).1, (A 813 (by omega) (by omega) (by decide) (by omega)).1, (A 814 (by omega) (by omega) (by decide) (by omega)).2]
    simpa [dBu, dN_eN, dL_eL, dI_eI, dL_eN, dI_eN, dN_eL, dI_eL, dN_eI, dL_eI, nS, nW, nJ, nL, nP, nO, nU, bas, wSh, wDr, jSh, lSh, lNm, pSh, pOp, oSh, oLb, oNm, uSh, uNm, uFr, uTo, wX, wY, wX2, wY2, jX, jY, lX, lY, pX, pY, par, pPt, rnk] using o_
  · intro p_ h_
    have o_ := D.2.2.2.2.2.1.1 p_ (by simpa [dBu, dN_eN, dL_eL, dI_eI, dL_eN, dI_eN, dN_eL, dI_eL, dN_eI, dL_eI, nS, nW, nJ, nL, nP, nO, nU, bas, wSh, wDr, jSh, lSh, lNm, pSh, pOp, oSh, oLb, oNm, uSh, uNm, uFr, uTo, wX, wY, wX2, wY2, jX, jY, lX, lY, pX, pY, par, pPt, rnk] using h_)
    rw [(A 816 (by omega) (by omega) (by decide) (by omega)).1, (A 817 (by omega) (by omega) (by decide) (by omega)).1, (A 818 (by omega) (by omega) (by decide) (by omega)).2]
    simpa [dBu, dN_eN, dL_eL, dI_eI, dL_eN, dI_eN, dN_eL, dI_eL, dN_eI, dL_eI, nS, nW, nJ, nL, nP, nO, nU, bas, wSh, wDr, jSh, lSh, lNm, pSh, pOp, oSh, oLb, oNm, uSh, uNm, uFr, uTo, wX, wY, wX2, wY2, jX, jY, lX, lY, pX, pY, par, pPt, rnk] using o_
  · intro p_ h_
    have o_ := D.2.2.2.2.2.1.2 p_ h_
    rw [(A 819 (by omega) (by omega) (by decide) (by omega)).1]
    simpa [dBu, dN_eN, dL_eL, dI_eI, dL_eN, dI_eN, dN_eL, dI_eL, dN_eI, dL_eI, nS, nW, nJ, nL, nP, nO, nU, bas, wSh, wDr, jSh, lSh, lNm, pSh, pOp, oSh, oLb, oNm, uSh, uNm, uFr, uTo, wX, wY, wX2, wY2, jX, jY, lX, lY, pX, pY, par, pPt, rnk] using o_
  · intro k_ h_
    have o_ := D.2.2.2.2.2.2.1 k_ (by simpa [dBu, dN_eN, dL_eL, dI_eI, dL_eN, dI_eN, dN_eL, dI_eL, dN_eI, dL_eI, nS, nW, nJ, nL, nP, nO, nU, bas, wSh, wDr, jSh, lSh, lNm, pSh, pOp, oSh, oLb, oNm, uSh, uNm, uFr, uTo, wX, wY, wX2, wY2, jX, jY, lX, lY, pX, pY, par, pPt, rnk] using h_)
    rw [(A 821 (by omega) (by omega) (by decide) (by omega)).1]
    simpa [dBu, dN_eN, dL_eL, dI_eI, dL_eN, dI_eN, dN_eL, dI_eL, dN_eI, dL_eI, nS, nW, nJ, nL, nP, nO, nU, bas, wSh, wDr, jSh, lSh, lNm, pSh, pOp, oSh, oLb, oNm, uSh, uNm, uFr, uTo, wX, wY, wX2, wY2, jX, jY, lX, lY, pX, pY, par, pPt, rnk] using o_
  · intro b_ h_
    have h1_ : b_ < nU d + 1 := by simpa [dBu, dN_eN, dL_eL, dI_eI, dL_eN, dI_eN, dN_eL, dI_eL, dN_eI, dL_eI, nS, nW, nJ, nL, nP, nO, nU, bas, wSh, wDr, jSh, lSh, lNm, pSh, pOp, oSh, oLb, oNm, uSh, uNm, uFr, uTo, wX, wY, wX2, wY2, jX, jY, lX, lY, pX, pY, par, pPt, rnk] using h_
    by_cases e_ : b_ = nU d
    · subst e_
      rw [x2, x2, x2, x2]
      simp [dBu, dN_eN, dL_eL, dI_eI, dL_eN, dI_eN, dN_eL, dI_eL, dN_eI, dL_eI, nS, nW, nJ, nL, nP, nO, nU, bas, wSh, wDr, jSh, lSh, lNm, pSh, pOp, oSh, oLb, oNm, uSh, uNm, uFr, uTo, wX, wY, wX2, wY2, jX, jY, lX, lY, pX, pY, par, pPt, rnk]
    · have lt_ : b_ < nU d := by omega
      have o_ := D.2.2.2.2.2.2.2.1 b_ lt_
      have ne_ : b_ ≠ dN d 0 6 := e_
      rw [x2, x2, x2, x2]
      simp only [nS, nW, nJ, nL, nP, nO, nU, bas, wSh, wDr, jSh, lSh, lNm, pSh, pOp, oSh, oLb, oNm, uSh, uNm, uFr, uTo, wX, wY, wX2, wY2, jX, jY, lX, lY, pX, pY, par, pPt, rnk] at e_ lt_ ⊢
      repeat rw [if_neg (by omega)]
      simpa [dBu, dN_eN, dL_eL, dI_eI, dL_eN, dI_eN, dN_eL, dI_eL, dN_eI, dL_eI, nS, nW, nJ, nL, nP, nO, nU, bas, wSh, wDr, jSh, lSh, lNm, pSh, pOp, oSh, oLb, oNm, uSh, uNm, uFr, uTo, wX, wY, wX2, wY2, jX, jY, lX, lY, pX, pY, par, pPt, rnk, ne_] using o_
  · intro n_ h_
    have o_ := D.2.2.2.2.2.2.2.2 n_ h_
    rw [(A 824 (by omega) (by omega) (by decide) (by omega)).1]
    simpa [dBu, dN_eN, dL_eL, dI_eI, dL_eN, dI_eN, dN_eL, dI_eL, dN_eI, dL_eI, nS, nW, nJ, nL, nP, nO, nU, bas, wSh, wDr, jSh, lSh, lNm, pSh, pOp, oSh, oLb, oNm, uSh, uNm, uFr, uTo, wX, wY, wX2, wY2, jX, jY, lX, lY, pX, pY, par, pPt, rnk] using o_
end RDX
