section RDY
variable {vm : Nat} {R : Nat → Nat} {B : Nat → Nat × Nat} {h h' : HS} {d : DS}
theorem rd_dr (i : Nat) (D : RD vm R h d) (I : ∀ g, 801 ≤ g → g ≤ 822 → gI h' g vm = gI h g vm) (A : ∀ g, 802 ≤ g → g ≤ 824 → rK g ≠ 0 → g ≠ 807 → gA h' (R g) = gA h (R g) ∧ gL h' (R g) = gL h (R g)) (x2 : ∀ j, gA h' (R 807) j = if j = i then nI 1 else gA h (R 807) j) : RD vm R h' (dDr d i) := by
  refine ⟨⟨?_, ?_, ?_, ?_, ?_, ?_, ?_⟩, ?_, ⟨?_, ?_⟩, ?_, ?_, ⟨?_, ?_⟩, ?_, ?_, ?_⟩
  · rw [I 801 (by omega) (by omega), D.1.1]; simp [dDr, dN_eN, dL_eL, dI_eI, dL_eN, dI_eN, dN_eL, dI_eL, dN_eI, dL_eI, nS, nW, nJ, nL, nP, nO, nU, bas, wSh, wDr, jSh, lSh, lNm, pSh, pOp, oSh, oLb, oNm, uSh, uNm, uFr, uTo, wX, wY, wX2, wY2, jX, jY, lX, lY, pX, pY, par, pPt, rnk]
  · rw [I 804 (by omega) (by omega), D.1.2.1]; simp [dDr, dN_eN, dL_eL, dI_eI, dL_eN, dI_eN, dN_eL, dI_eL, dN_eI, dL_eI, nS, nW, nJ, nL, nP, nO, nU, bas, wSh, wDr, jSh, lSh, lNm, pSh, pOp, oSh, oLb, oNm, uSh, uNm, uFr, uTo, wX, wY, wX2, wY2, jX, jY, lX, lY, pX, pY, par, pPt, rnk]
  · rw [I 808 (by omega) (by omega), D.1.2.2.1]; simp [dDr, dN_eN, dL_eL, dI_eI, dL_eN, dI_eN, dN_eL, dI_eL, dN_eI, dL_eI, nS, nW, nJ, nL, nP, nO, nU, bas, wSh, wDr, jSh, lSh, lNm, pSh, pOp, oSh, oLb, oNm, uSh, uNm, uFr, uTo, wX, wY, wX2, wY2, jX, jY, lX, lY, pX, pY, par, pPt, rnk]
  · rw [I 811 (by omega) (by omega), D.1.2.2.2.1]; simp [dDr, dN_eN, dL_eL, dI_eI, dL_eN, dI_eN, dN_eL, dI_eL, dN_eI, dL_eI, nS, nW, nJ, nL, nP, nO, nU, bas, wSh, wDr, jSh, lSh, lNm, pSh, pOp, oSh, oLb, oNm, uSh, uNm, uFr, uTo, wX, wY, wX2, wY2, jX, jY, lX, lY, pX, pY, par, pPt, rnk]
  · rw [I 815 (by omega) (by omega), D.1.2.2.2.2.1]; simp [dDr, dN_eN, dL_eL, dI_eI, dL_eN, dI_eN, dN_eL, dI_eL, dN_eI, dL_eI, nS, nW, nJ, nL, nP, nO, nU, bas, wSh, wDr, jSh, lSh, lNm, pSh, pOp, oSh, oLb, oNm, uSh, uNm, uFr, uTo, wX, wY, wX2, wY2, jX, jY, lX, lY, pX, pY, par, pPt, rnk]
  · rw [I 820 (by omega) (by omega), D.1.2.2.2.2.2.1]; simp [dDr, dN_eN, dL_eL, dI_eI, dL_eN, dI_eN, dN_eL, dI_eL, dN_eI, dL_eI, nS, nW, nJ, nL, nP, nO, nU, bas, wSh, wDr, jSh, lSh, lNm, pSh, pOp, oSh, oLb, oNm, uSh, uNm, uFr, uTo, wX, wY, wX2, wY2, jX, jY, lX, lY, pX, pY, par, pPt, rnk]
  · rw [I 822 (by omega) (by omega), D.1.2.2.2.2.2.2]; simp [dDr, dN_eN, dL_eL, dI_eI, dL_eN, dI_eN, dN_eL, dI_eL, dN_eI, dL_eI, nS, nW, nJ, nL, nP, nO, nU, bas, wSh, wDr, jSh, lSh, lNm, pSh, pOp, oSh, oLb, oNm, uSh, uNm, uFr, uTo, wX, wY, wX2, wY2, jX, jY, lX, lY, pX, pY, par, pPt, rnk]
  · intro t_ h_
    have o_ := D.2.1 t_ (by simpa [dDr, dN_eN, dL_eL, dI_eI, dL_eN, dI_eN, dN_eL, dI_eL, dN_eI, dL_eI, nS, nW, nJ, nL, nP, nO, nU, bas, wSh, wDr, jSh, lSh, lNm, pSh, pOp, oSh, oLb, oNm, uSh, uNm, uFr, uTo, wX, wY, wX2, wY2, jX, jY, lX, lY, pX, pY, par, pPt, rnk] using h_)
    rw [(A 802 (by omega) (by omega) (by decide) (by omega)).1, (A 803 (by omega) (by omega) (by decide) (by omega)).1]
    simpa [dDr, dN_eN, dL_eL, dI_eI, dL_eN, dI_eN, dN_eL, dI_eL, dN_eI, dL_eI, nS, nW, nJ, nL, nP, nO, nU, bas, wSh, wDr, jSh, lSh, lNm, pSh, pOp, oSh, oLb, oNm, uSh, uNm, uFr, uTo, wX, wY, wX2, wY2, jX, jY, lX, lY, pX, pY, par, pPt, rnk] using o_
  · intro w_ h_
    have o_ := D.2.2.1.1 w_ (by simpa [dDr, dN_eN, dL_eL, dI_eI, dL_eN, dI_eN, dN_eL, dI_eL, dN_eI, dL_eI, nS, nW, nJ, nL, nP, nO, nU, bas, wSh, wDr, jSh, lSh, lNm, pSh, pOp, oSh, oLb, oNm, uSh, uNm, uFr, uTo, wX, wY, wX2, wY2, jX, jY, lX, lY, pX, pY, par, pPt, rnk] using h_)
    rw [(A 805 (by omega) (by omega) (by decide) (by omega)).1, (A 806 (by omega) (by omega) (by decide) (by omega)).2]
    simpa [dDr, dN_eN, dL_eL, dI_eI, dL_eN, dI_eN, dN_eL, dI_eL, dN_eI, dL_eI, nS, nW, nJ, nL, nP, nO, nU, bas, wSh, wDr, jSh, lSh, lNm, pSh, pOp, oSh, oLb, oNm, uSh, uNm, uFr, uTo, wX, wY, wX2, wY2, jX, jY, lX, lY, pX, pY, par, pPt, rnk] using o_
  · intro w_ h_
    have o_ := D.2.2.1.2 w_ h_
    rw [x2]
    by_cases e_ : w_ = i
    · rw [if_pos e_]; simp [dDr, dN_eN, dL_eL, dI_eI, dL_eN, dI_eN, dN_eL, dI_eL, dN_eI, dL_eI, nS, nW, nJ, nL, nP, nO, nU, bas, wSh, wDr, jSh, lSh, lNm, pSh, pOp, oSh, oLb, oNm, uSh, uNm, uFr, uTo, wX, wY, wX2, wY2, jX, jY, lX, lY, pX, pY, par, pPt, rnk, e_]
    · rw [if_neg e_]; simpa [dDr, dN_eN, dL_eL, dI_eI, dL_eN, dI_eN, dN_eL, dI_eL, dN_eI, dL_eI, nS, nW, nJ, nL, nP, nO, nU, bas, wSh, wDr, jSh, lSh, lNm, pSh, pOp, oSh, oLb, oNm, uSh, uNm, uFr, uTo, wX, wY, wX2, wY2, jX, jY, lX, lY, pX, pY, par, pPt, rnk, e_] using o_
  · intro k_ h_
    have o_ := D.2.2.2.1 k_ (by simpa [dDr, dN_eN, dL_eL, dI_eI, dL_eN, dI_eN, dN_eL, dI_eL, dN_eI, dL_eI, nS, nW, nJ, nL, nP, nO, nU, bas, wSh, wDr, jSh, lSh, lNm, pSh, pOp, oSh, oLb, oNm, uSh, uNm, uFr, uTo, wX, wY, wX2, wY2, jX, jY, lX, lY, pX, pY, par, pPt, rnk] using h_)
    rw [(A 809 (by omega) (by omega) (by decide) (by omega)).1, (A 810 (by omega) (by omega) (by decide) (by omega)).2]
    simpa [dDr, dN_eN, dL_eL, dI_eI, dL_eN, dI_eN, dN_eL, dI_eL, dN_eI, dL_eI, nS, nW, nJ, nL, nP, nO, nU, bas, wSh, wDr, jSh, lSh, lNm, pSh, pOp, oSh, oLb, oNm, uSh, uNm, uFr, uTo, wX, wY, wX2, wY2, jX, jY, lX, lY, pX, pY, par, pPt, rnk] using o_
  · intro l_ h_
    have o_ := D.2.2.2.2.1 l_ (by simpa [dDr, dN_eN, dL_eL, dI_eI, dL_eN, dI_eN, dN_eL, dI_eL, dN_eI, dL_eI, nS, nW, nJ, nL, nP, nO, nU, bas, wSh, wDr, jSh, lSh, lNm, pSh, pOp, oSh, oLb, oNm, uSh, uNm, uFr, uTo, wX, wY, wX2, wY2, jX, jY, lX, lY, pX, pY, par, pPt, rnk] using h_)
    rw [(A 812 (by omega) (by omega) (by decide) (by omega)).1, (A 813 (by omega) (by omega) (by decide) (by omega)).1, (A 814 (by omega) (by omega) (by decide) (by omega)).2]
    simpa [dDr, dN_eN, dL_eL, dI_eI, dL_eN, dI_eN, dN_eL, dI_eL, dN_eI, dL_eI, nS, nW, nJ, nL, nP, nO, nU, bas, wSh, wDr, jSh, lSh, lNm, pSh, pOp, oSh, oLb, oNm, uSh, uNm, uFr, uTo, wX, wY, wX2, wY2, jX, jY, lX, lY, pX, pY, par, pPt, rnk] using o_
  · intro p_ h_
    have o_ := D.2.2.2.2.2.1.1 p_ (by simpa [dDr, dN_eN, dL_eL, dI_eI, dL_eN, dI_eN, dN_eL, dI_eL, dN_eI, dL_eI, nS, nW, nJ, nL, nP, nO, nU, bas, wSh, wDr, jSh, lSh, lNm, pSh, pOp, oSh, oLb, oNm, uSh, uNm, uFr, uTo, wX, wY, wX2, wY2, jX, jY, lX, lY, pX, pY, par, pPt, rnk] using h_)
    rw [(A 816 (by omega) (by omega) (by decide) (by omega)).1, (A 817 (by omega) (by omega) (by decide) (by omega)).1, (A 818 (by omega) (by omega) (by decide) (by omega)).2]
    simpa [dDr, dN_eN, dL_eL, dI_eI, dL_eN, dI_eN, dN_eL, dI_eL, dN_eI, dL_eI, nS, nW, nJ, nL, nP, nO, nU, bas, wSh, wDr, jSh, lSh, lNm, pSh, pOp, oSh, oLb, oNm, uSh, uNm, uFr, uTo, wX, wY, wX2, wY2, jX, jY, lX, lY, pX, pY, par, pPt, rnk] using o_
  · intro p_ h_
    have o_ := D.2.2.2.2.2.1.2 p_ h_
    rw [(A 819 (by omega) (by omega) (by decide) (by omega)).1]
    simpa [dDr, dN_eN, dL_eL, dI_eI, dL_eN, dI_eN, dN_eL, dI_eL, dN_eI, dL_eI, nS, nW, nJ, nL, nP, nO, nU, bas, wSh, wDr, jSh, lSh, lNm, pSh, pOp, oSh, oLb, oNm, uSh, uNm, uFr, uTo, wX, wY, wX2, wY2, jX, jY, lX, lY, pX, pY, par, pPt, rnk] using o_
  · intro k_ h_
    have o_ := D.2.2.2.2.2.2.1 k_ (by simpa [dDr, dN_eN, dL_eL, dI_eI, dL_eN, dI_eN, dN_eL, dI_eL, dN_eI, dL_eI, nS, nW, nJ, nL, nP, nO, nU, bas, wSh, wDr, jSh, lSh, lNm, pSh, pOp, oSh, oLb, oNm, uSh, uNm, uFr, uTo, wX, wY, wX2, wY2, jX, jY, lX, lY, pX, pY, par, pPt, rnk] using h_)
    rw [(A 821 (by omega) (by omega) (by decide) (by omega)).1]
    simpa [dDr, dN_eN, dL_eL, dI_eI, dL_eN, dI_eN, dN_eL, dI_eL, dN_eI, dL_eI, nS, nW, nJ, nL, nP, nO, nU, bas, wSh, wDr, jSh, lSh, lNm, pSh, pOp, oSh, oLb, oNm, uSh, uNm, uFr, uTo, wX, wY, wX2, wY2, jX, jY, lX, lY, pX, pY, par, pPt, rnk] using o_
  · intro b_ h_
    have o_ := D.2.2.2.2.2.2.2.1 b_ (by simpa [dDr, dN_eN, dL_eL, dI_eI, dL_eN, dI_eN, dN_eL, dI_eL, dN_eI, dL_eI, nS, nW, nJ, nL, nP, nO, nU, bas, wSh, wDr, jSh, lSh, lNm, pSh, pOp, oSh, oLb, oNm, uSh, uNm, uFr, uTo, wX, wY, wX2, wY2, jX, jY, lX, lY, pX, pY, par, pPt, rnk] using h_)
    rw [(A 823 (by omega) (by omega) (by decide) (by omega)).1]
    simpa [dDr, dN_eN, dL_eL, dI_eI, dL_eN, dI_eN, dN_eL, dI_eL, dN_eI, dL_eI, nS, nW, nJ, nL, nP, nO, nU, bas, wSh, wDr, jSh, lSh, lNm, pSh, pOp, oSh, oLb, oNm, uSh, uNm, uFr, uTo, wX, wY, wX2, wY2, jX, jY, lX, lY, pX, pY, par, pPt, rnk] using o_
  · intro n_ h_
    have o_ := D.2.2.2.2.2.2.2.2 n_ h_
    rw [(A 824 (by omega) (by omega) (by decide) (by omega)).1]
    simpa [dDr, dN_eN, dL_eL, dI_eI, dL_eN, dI_eN, dN_eL, dI_eL, dN_eI, dL_eI, nS, nW, nJ, nL, nP, nO, nU, bas, wSh, wDr, jSh, lSh, lNm, pSh, pOp, oSh, oLb, oNm, uSh, uNm, uFr, uTo, wX, wY, wX2, wY2, jX, jY, lX, lY, pX, pY, par, pPt, rnk] using o_
theorem rd_op (i v : Nat) (D : RD vm R h d) (I : ∀ g, 801 ≤ g → g ≤ 822 → gI h' g vm = gI h g vm) (A : ∀ g, 802 ≤ g → g ≤ 824 → rK g ≠ 0 → g ≠ 819 → gA h' (R g) = gA h (R g) ∧ gL h' (R g) = gL h (R g)) (x2 : ∀ j, gA h' (R 819) j = if j = i then nI v else gA h (R 819) j) : RD vm R h' (dOp d i v) := by
  refine ⟨⟨?_, ?_, ?_, ?_, ?_, ?_, ?_⟩, ?_, ⟨?_, ?_⟩, ?_, ?_, ⟨?_, ?_⟩, ?_, ?_, ?_⟩
  · rw [I 801 (by omega) (by omega), D.1.1]; simp [dOp, dN_eN, dL_eL, dI_eI, dL_eN, dI_eN, dN_eL, dI_eL, dN_eI, dL_eI, nS, nW, nJ, nL, nP, nO, nU, bas, wSh, wDr, jSh, lSh, lNm, pSh, pOp, oSh, oLb, oNm, uSh, uNm, uFr, uTo, wX, wY, wX2, wY2, jX, jY, lX, lY, pX, pY, par, pPt, rnk]
  · rw [I 804 (by omega) (by omega), D.1.2.1]; simp [dOp, dN_eN, dL_eL, dI_eI, dL_eN, dI_eN, dN_eL, dI_eL, dN_eI, dL_eI, nS, nW, nJ, nL, nP, nO, nU, bas, wSh, wDr, jSh, lSh, lNm, pSh, pOp, oSh, oLb, oNm, uSh, uNm, uFr, uTo, wX, wY, wX2, wY2, jX, jY, lX, lY, pX, pY, par, pPt, rnk]
  · rw [I 808 (by omega) (by omega), D.1.2.2.1]; simp [dOp, dN_eN, dL_eL, dI_eI, dL_eN, dI_eN, dN_eL, dI_eL, dN_eI, dL_eI, nS, nW, nJ, nL, nP, nO, nU, bas, wSh, wDr, jSh, lSh, lNm, pSh, pOp, oSh, oLb, oNm, uSh, uNm, uFr, uTo, wX, wY, wX2, wY2, jX, jY, lX, lY, pX, pY, par, pPt, rnk]
  · rw [I 811 (by omega) (by omega), D.1.2.2.2.1]; simp [dOp, dN_eN, dL_eL, dI_eI, dL_eN, dI_eN, dN_eL, dI_eL, dN_eI, dL_eI, nS, nW, nJ, nL, nP, nO, nU, bas, wSh, wDr, jSh, lSh, lNm, pSh, pOp, oSh, oLb, oNm, uSh, uNm, uFr, uTo, wX, wY, wX2, wY2, jX, jY, lX, lY, pX, pY, par, pPt, rnk]
  · rw [I 815 (by omega) (by omega), D.1.2.2.2.2.1]; simp [dOp, dN_eN, dL_eL, dI_eI, dL_eN, dI_eN, dN_eL, dI_eL, dN_eI, dL_eI, nS, nW, nJ, nL, nP, nO, nU, bas, wSh, wDr, jSh, lSh, lNm, pSh, pOp, oSh, oLb, oNm, uSh, uNm, uFr, uTo, wX, wY, wX2, wY2, jX, jY, lX, lY, pX, pY, par, pPt, rnk]
  · rw [I 820 (by omega) (by omega), D.1.2.2.2.2.2.1]; simp [dOp, dN_eN, dL_eL, dI_eI, dL_eN, dI_eN, dN_eL, dI_eL, dN_eI, dL_eI, nS, nW, nJ, nL, nP, nO, nU, bas, wSh, wDr, jSh, lSh, lNm, pSh, pOp, oSh, oLb, oNm, uSh, uNm, uFr, uTo, wX, wY, wX2, wY2, jX, jY, lX, lY, pX, pY, par, pPt, rnk]
  · rw [I 822 (by omega) (by omega), D.1.2.2.2.2.2.2]; simp [dOp, dN_eN, dL_eL, dI_eI, dL_eN, dI_eN, dN_eL, dI_eL, dN_eI, dL_eI, nS, nW, nJ, nL, nP, nO, nU, bas, wSh, wDr, jSh, lSh, lNm, pSh, pOp, oSh, oLb, oNm, uSh, uNm, uFr, uTo, wX, wY, wX2, wY2, jX, jY, lX, lY, pX, pY, par, pPt, rnk]
  · intro t_ h_
    have o_ := D.2.1 t_ (by simpa [dOp, dN_eN, dL_eL, dI_eI, dL_eN, dI_eN, dN_eL, dI_eL, dN_eI, dL_eI, nS, nW, nJ, nL, nP, nO, nU, bas, wSh, wDr, jSh, lSh, lNm, pSh, pOp, oSh, oLb, oNm, uSh, uNm, uFr, uTo, wX, wY, wX2, wY2, jX, jY, lX, lY, pX, pY, par, pPt, rnk] using h_)
    rw [(A 802 (by omega) (by omega) (by decide) (by omega)).1, (A 803 (by omega) (by omega) (by decide) (by omega)).1]
    simpa [dOp, dN_eN, dL_eL, dI_eI, dL_eN, dI_eN, dN_eL, dI_eL, dN_eI, dL_eI, nS, nW, nJ, nL, nP, nO, nU, bas, wSh, wDr, jSh, lSh, lNm, pSh, pOp, oSh, oLb, oNm, uSh, uNm, uFr, uTo, wX, wY, wX2, wY2, jX, jY, lX, lY, pX, pY, par, pPt, rnk] using o_
  · intro w_ h_
    have o_ := D.2.2.1.1 w_ (by simpa [dOp, dN_eN, dL_eL, dI_eI, dL_eN, dI_eN, dN_eL, dI_eL, dN_eI, dL_eI, nS, nW, nJ, nL, nP, nO, nU, bas, wSh, wDr, jSh, lSh, lNm, pSh, pOp, oSh, oLb, oNm, uSh, uNm, uFr, uTo, wX, wY, wX2, wY2, jX, jY, lX, lY, pX, pY, par, pPt, rnk] using h_)
    rw [(A 805 (by omega) (by omega) (by decide) (by omega)).1, (A 806 (by omega) (by omega) (by decide) (by omega)).2]
    simpa [dOp, dN_eN, dL_eL, dI_eI, dL_eN, dI_eN, dN_eL, dI_eL, dN_eI, dL_eI, nS, nW, nJ, nL, nP, nO, nU, bas, wSh, wDr, jSh, lSh, lNm, pSh, pOp, oSh, oLb, oNm, uSh, uNm, uFr, uTo, wX, wY, wX2, wY2, jX, jY, lX, lY, pX, pY, par, pPt, rnk] using o_
  · intro w_ h_
    have o_ := D.2.2.1.2 w_ h_
    rw [(A 807 (by omega) (by omega) (by decide) (by omega)).1]
    simpa [dOp, dN_eN, dL_eL, dI_eI, dL_eN, dI_eN, dN_eL, dI_eL, dN_eI, dL_eI, nS, nW, nJ, nL, nP, nO, nU, bas, wSh, wDr, jSh, lSh, lNm, pSh, pOp, oSh, oLb, oNm, uSh, uNm, uFr, uTo, wX, wY, wX2, wY2, jX, jY, lX, lY, pX, pY, par, pPt, rnk] using o_
  · intro k_ h_
    have o_ := D.2.2.2.1 k_ (by simpa [dOp, dN_eN, dL_eL, dI_eI, dL_eN, dI_eN, dN_eL, dI_eL, dN_eI, dL_eI, nS, nW, nJ, nL, nP, nO, nU, bas, wSh, wDr, jSh, lSh, lNm, pSh, pOp, oSh, oLb, oNm, uSh, uNm, uFr, uTo, wX, wY, wX2, wY2, jX, jY, lX, lY, pX, pY, par, pPt, rnk] using h_)
    rw [(A 809 (by omega) (by omega) (by decide) (by omega)).1, (A 810 (by omega) (by omega) (by decide) (by omega)).2]
    simpa [dOp, dN_eN, dL_eL, dI_eI, dL_eN, dI_eN, dN_eL, dI_eL, dN_eI, dL_eI, nS, nW, nJ, nL, nP, nO, nU, bas, wSh, wDr, jSh, lSh, lNm, pSh, pOp, oSh, oLb, oNm, uSh, uNm, uFr, uTo, wX, wY, wX2, wY2, jX, jY, lX, lY, pX, pY, par, pPt, rnk] using o_
  · intro l_ h_
    have o_ := D.2.2.2.2.1 l_ (by simpa [dOp, dN_eN, dL_eL, dI_eI, dL_eN, dI_eN, dN_eL, dI_eL, dN_eI, dL_eI, nS, nW, nJ, nL, nP, nO, nU, bas, wSh, wDr, jSh, lSh, lNm, pSh, pOp, oSh, oLb, oNm, uSh, uNm, uFr, uTo, wX, wY, wX2, wY2, jX, jY, lX, lY, pX, pY, par, pPt, rnk] using h_)
    rw [(A 812 (by omega) (by omega) (by decide) (by omega)).1, (A 813 (by omega) (by omega) (by decide) (by omega)).1, (A 814 (by omega) (by omega) (by decide) (by omega)).2]
    simpa [dOp, dN_eN, dL_eL, dI_eI, dL_eN, dI_eN, dN_eL, dI_eL, dN_eI, dL_eI, nS, nW, nJ, nL, nP, nO, nU, bas, wSh, wDr, jSh, lSh, lNm, pSh, pOp, oSh, oLb, oNm, uSh, uNm, uFr, uTo, wX, wY, wX2, wY2, jX, jY, lX, lY, pX, pY, par, pPt, rnk] using o_
  · intro p_ h_
    have o_ := D.2.2.2.2.2.1.1 p_ (by simpa [dOp, dN_eN, dL_eL, dI_eI, dL_eN, dI_eN, dN_eL, dI_eL, dN_eI, dL_eI, nS, nW, nJ, nL, nP, nO, nU, bas, wSh, wDr, jSh, lSh, lNm, pSh, pOp, oSh, oLb, oNm, uSh, uNm, uFr, uTo, wX, wY, wX2, wY2, jX, jY, lX, lY, pX, pY, par, pPt, rnk] using h_)
    rw [(A 816 (by omega) (by omega) (by decide) (by omega)).1, (A 817 (by omega) (by omega) (by decide) (by omega)).1, (A 818 (by omega) (by omega) (by decide) (by omega)).2]
    simpa [dOp, dN_eN, dL_eL, dI_eI, dL_eN, dI_eN, dN_eL, dI_eL, dN_eI, dL_eI, nS, nW, nJ, nL, nP, nO, nU, bas, wSh, wDr, jSh, lSh, lNm, pSh, pOp, oSh, oLb, oNm, uSh, uNm, uFr, uTo, wX, wY, wX2, wY2, jX, jY, lX, lY, pX, pY, par, pPt, rnk] using o_
  · intro p_ h_
    have o_ := D.2.2.2.2.2.1.2 p_ h_
    rw [x2]
    by_cases e_ : p_ = i
    · rw [if_pos e_]; simp [dOp, dN_eN, dL_eL, dI_eI, dL_eN, dI_eN, dN_eL, dI_eL, dN_eI, dL_eI, nS, nW, nJ, nL, nP, nO, nU, bas, wSh, wDr, jSh, lSh, lNm, pSh, pOp, oSh, oLb, oNm, uSh, uNm, uFr, uTo, wX, wY, wX2, wY2, jX, jY, lX, lY, pX, pY, par, pPt, rnk, e_]
    · rw [if_neg e_]; simpa [dOp, dN_eN, dL_eL, dI_eI, dL_eN, dI_eN, dN_eL, dI_eL, dN_eI, dL_eI, nS, nW, nJ, nL, nP, nO, nU, bas, wSh, wDr, jSh, lSh, lNm, pSh, pOp, oSh, oLb, oNm, uSh, uNm, uFr, uTo, wX, wY, wX2, wY2, jX, jY, lX, lY, pX, pY, par, pPt, rnk, e_] using o_
  · intro k_ h_
    have o_ := D.2.2.2.2.2.2.1 k_ (by simpa [dOp, dN_eN, dL_eL, dI_eI, dL_eN, dI_eN, dN_eL, dI_eL, dN_eI, dL_eI, nS, nW, nJ, nL, nP, nO, nU, bas, wSh, wDr, jSh, lSh, lNm, pSh, pOp, oSh, oLb, oNm, uSh, uNm, uFr, uTo, wX, wY, wX2, wY2, jX, jY, lX, lY, pX, pY, par, pPt, rnk] using h_)
    rw [(A 821 (by omega) (by omega) (by decide) (by omega)).1]
    simpa [dOp, dN_eN, dL_eL, dI_eI, dL_eN, dI_eN, dN_eL, dI_eL, dN_eI, dL_eI, nS, nW, nJ, nL, nP, nO, nU, bas, wSh, wDr, jSh, lSh, lNm, pSh, pOp, oSh, oLb, oNm, uSh, uNm, uFr, uTo, wX, wY, wX2, wY2, jX, jY, lX, lY, pX, pY, par, pPt, rnk] using o_
  · intro b_ h_
    have o_ := D.2.2.2.2.2.2.2.1 b_ (by simpa [dOp, dN_eN, dL_eL, dI_eI, dL_eN, dI_eN, dN_eL, dI_eL, dN_eI, dL_eI, nS, nW, nJ, nL, nP, nO, nU, bas, wSh, wDr, jSh, lSh, lNm, pSh, pOp, oSh, oLb, oNm, uSh, uNm, uFr, uTo, wX, wY, wX2, wY2, jX, jY, lX, lY, pX, pY, par, pPt, rnk] using h_)
    rw [(A 823 (by omega) (by omega) (by decide) (by omega)).1]
    simpa [dOp, dN_eN, dL_eL, dI_eI, dL_eN, dI_eN, dN_eL, dI_eL, dN_eI, dL_eI, nS, nW, nJ, nL, nP, nO, nU, bas, wSh, wDr, jSh, lSh, lNm, pSh, pOp, oSh, oLb, oNm, uSh, uNm, uFr, uTo, wX, wY, wX2, wY2, jX, jY, lX, lY, pX, pY, par, pPt, rnk] using o_
  · intro n_ h_
    have o_ := D.2.2.2.2.2.2.2.2 n_ h_
    rw [(A 824 (by omega) (by omega) (by decide) (by omega)).1]
    simpa [dOp, dN_eN, dL_eL, dI_eI, dL_eN, dI_eN, dN_eL, dI_eL, dN_eI, dL_eI, nS, nW, nJ, nL, nP, nO, nU, bas, wSh, wDr, jSh, lSh, lNm, pSh, pOp, oSh, oLb, oNm, uSh, uNm, uFr, uTo, wX, wY, wX2, wY2, jX, jY, lX, lY, pX, pY, par, pPt, rnk] using o_
theorem rd_rk (i : Nat) (v : Int32) (D : RD vm R h d) (I : ∀ g, 801 ≤ g → g ≤ 822 → gI h' g vm = gI h g vm) (A : ∀ g, 802 ≤ g → g ≤ 824 → rK g ≠ 0 → g ≠ 824 → gA h' (R g) = gA h (R g) ∧ gL h' (R g) = gL h (R g)) (x2 : ∀ j, gA h' (R 824) j = if j = i then v else gA h (R 824) j) : RD vm R h' (dRk d i v) := by
  refine ⟨⟨?_, ?_, ?_, ?_, ?_, ?_, ?_⟩, ?_, ⟨?_, ?_⟩, ?_, ?_, ⟨?_, ?_⟩, ?_, ?_, ?_⟩
  · rw [I 801 (by omega) (by omega), D.1.1]; simp [dRk, dN_eN, dL_eL, dI_eI, dL_eN, dI_eN, dN_eL, dI_eL, dN_eI, dL_eI, nS, nW, nJ, nL, nP, nO, nU, bas, wSh, wDr, jSh, lSh, lNm, pSh, pOp, oSh, oLb, oNm, uSh, uNm, uFr, uTo, wX, wY, wX2, wY2, jX, jY, lX, lY, pX, pY, par, pPt, rnk]
  · rw [I 804 (by omega) (by omega), D.1.2.1]; simp [dRk, dN_eN, dL_eL, dI_eI, dL_eN, dI_eN, dN_eL, dI_eL, dN_eI, dL_eI, nS, nW, nJ, nL, nP, nO, nU, bas, wSh, wDr, jSh, lSh, lNm, pSh, pOp, oSh, oLb, oNm, uSh, uNm, uFr, uTo, wX, wY, wX2, wY2, jX, jY, lX, lY, pX, pY, par, pPt, rnk]
  · rw [I 808 (by omega) (by omega), D.1.2.2.1]; simp [dRk, dN_eN, dL_eL, dI_eI, dL_eN, dI_eN, dN_eL, dI_eL, dN_eI, dL_eI, nS, nW, nJ, nL, nP, nO, nU, bas, wSh, wDr, jSh, lSh, lNm, pSh, pOp, oSh, oLb, oNm, uSh, uNm, uFr, uTo, wX, wY, wX2, wY2, jX, jY, lX, lY, pX, pY, par, pPt, rnk]
  · rw [I 811 (by omega) (by omega), D.1.2.2.2.1]; simp [dRk, dN_eN, dL_eL, dI_eI, dL_eN, dI_eN, dN_eL, dI_eL, dN_eI, dL_eI, nS, nW, nJ, nL, nP, nO, nU, bas, wSh, wDr, jSh, lSh, lNm, pSh, pOp, oSh, oLb, oNm, uSh, uNm, uFr, uTo, wX, wY, wX2, wY2, jX, jY, lX, lY, pX, pY, par, pPt, rnk]
  · rw [I 815 (by omega) (by omega), D.1.2.2.2.2.1]; simp [dRk, dN_eN, dL_eL, dI_eI, dL_eN, dI_eN, dN_eL, dI_eL, dN_eI, dL_eI, nS, nW, nJ, nL, nP, nO, nU, bas, wSh, wDr, jSh, lSh, lNm, pSh, pOp, oSh, oLb, oNm, uSh, uNm, uFr, uTo, wX, wY, wX2, wY2, jX, jY, lX, lY, pX, pY, par, pPt, rnk]
  · rw [I 820 (by omega) (by omega), D.1.2.2.2.2.2.1]; simp [dRk, dN_eN, dL_eL, dI_eI, dL_eN, dI_eN, dN_eL, dI_eL, dN_eI, dL_eI, nS, nW, nJ, nL, nP, nO, nU, bas, wSh, wDr, jSh, lSh, lNm, pSh, pOp, oSh, oLb, oNm, uSh, uNm, uFr, uTo, wX, wY, wX2, wY2, jX, jY, lX, lY, pX, pY, par, pPt, rnk]
  · rw [I 822 (by omega) (by omega), D.1.2.2.2.2.2.2]; simp [dRk, dN_eN, dL_eL, dI_eI, dL_eN, dI_eN, dN_eL, dI_eL, dN_eI, dL_eI, nS, nW, nJ, nL, nP, nO, nU, bas, wSh, wDr, jSh, lSh, lNm, pSh, pOp, oSh, oLb, oNm, uSh, uNm, uFr, uTo, wX, wY, wX2, wY2, jX, jY, lX, lY, pX, pY, par, pPt, rnk]
  · intro t_ h_
    have o_ := D.2.1 t_ (by simpa [dRk, dN_eN, dL_eL, dI_eI, dL_eN, dI_eN, dN_eL, dI_eL, dN_eI, dL_eI, nS, nW, nJ, nL, nP, nO, nU, bas, wSh, wDr, jSh, lSh, lNm, pSh, pOp, oSh, oLb, oNm, uSh, uNm, uFr, uTo, wX, wY, wX2, wY2, jX, jY, lX, lY, pX, pY, par, pPt, rnk] using h_)
    rw [(A 802 (by omega) (by omega) (by decide) (by omega)).1, (A 803 (by omega) (by omega) (by decide) (by omega)).1]
    simpa [dRk, dN_eN, dL_eL, dI_eI, dL_eN, dI_eN, dN_eL, dI_eL, dN_eI, dL_eI, nS, nW, nJ, nL, nP, nO, nU, bas, wSh, wDr, jSh, lSh, lNm, pSh, pOp, oSh, oLb, oNm, uSh, uNm, uFr, uTo, wX, wY, wX2, wY2, jX, jY, lX, lY, pX, pY, par, pPt, rnk] using o_
  · intro w_ h_
    have o_ := D.2.2.1.1 w_ (by simpa [dRk, dN_eN, dL_eL, dI_eI, dL_eN, dI_eN, dN_eL, dI_eL, dN_eI, dL_eI, nS, nW, nJ, nL, nP, nO, nU, bas, wSh, wDr, jSh, lSh, lNm, pSh, pOp, oSh, oLb, oNm, uSh, uNm, uFr, uTo, wX, wY, wX2, wY2, jX, jY, lX, lY, pX, pY, par, pPt, rnk] using h_)
    rw [(A 805 (by omega) (by omega) (by decide) (by omega)).1, (A 806 (by omega) (by omega) (by decide) (by omega)).2]
    simpa [dRk, dN_eN, dL_eL, dI_eI, dL_eN, dI_eN, dN_eL, dI_eL, dN_eI, dL_eI, nS, nW, nJ, nL, nP, nO, nU, bas, wSh, wDr, jSh, lSh, lNm, pSh, pOp, oSh, oLb, oNm, uSh, uNm, uFr, uTo, wX, wY, wX2, wY2, jX, jY, lX, lY, pX, pY, par, pPt, rnk] using o_
  · intro w_ h_
    have o_ := D.2.2.1.2 w_ h_
    rw [(A 807 (by omega) (by omega) (by decide) (by omega)).1]
    simpa [dRk, dN_eN, dL_eL, dI_eI, dL_eN, dI_eN, dN_eL, dI_eL, dN_eI, dL_eI, nS, nW, nJ, nL, nP, nO, nU, bas, wSh, wDr, jSh, lSh, lNm, pSh, pOp, oSh, oLb, oNm, uSh, uNm, uFr, uTo, wX, wY, wX2, wY2, jX, jY, lX, lY, pX, pY, par, pPt, rnk] using o_
  · intro k_ h_
    have o_ := D.2.2.2.1 k_ (by simpa [dRk, dN_eN, dL_eL, dI_eI, dL_eN, dI_eN, dN_eL, dI_eL, dN_eI, dL_eI, nS, nW, nJ, nL, nP, nO, nU, bas, wSh, wDr, jSh, lSh, lNm, pSh, pOp, oSh, oLb, oNm, uSh, uNm, uFr, uTo, wX, wY, wX2, wY2, jX, jY, lX, lY, pX, pY, par, pPt, rnk] using h_)
    rw [(A 809 (by omega) (by omega) (by decide) (by omega)).1, (A 810 (by omega) (by omega) (by decide) (by omega)).2]
    simpa [dRk, dN_eN, dL_eL, dI_eI, dL_eN, dI_eN, dN_eL, dI_eL, dN_eI, dL_eI, nS, nW, nJ, nL, nP, nO, nU, bas, wSh, wDr, jSh, lSh, lNm, pSh, pOp, oSh, oLb, oNm, uSh, uNm, uFr, uTo, wX, wY, wX2, wY2, jX, jY, lX, lY, pX, pY, par, pPt, rnk] using o_
  · intro l_ h_
    have o_ := D.2.2.2.2.1 l_ (by simpa [dRk, dN_eN, dL_eL, dI_eI, dL_eN, dI_eN, dN_eL, dI_eL, dN_eI, dL_eI, nS, nW, nJ, nL, nP, nO, nU, bas, wSh, wDr, jSh, lSh, lNm, pSh, pOp, oSh, oLb, oNm, uSh, uNm, uFr, uTo, wX, wY, wX2, wY2, jX, jY, lX, lY, pX, pY, par, pPt, rnk] using h_)
    rw [(A 812 (by omega) (by omega) (by decide) (by omega)).1, (A 813 (by omega) (by omega) (by decide) (by omega)).1, (A 814 (by omega) (by omega) (by decide) (by omega)).2]
    simpa [dRk, dN_eN, dL_eL, dI_eI, dL_eN, dI_eN, dN_eL, dI_eL, dN_eI, dL_eI, nS, nW, nJ, nL, nP, nO, nU, bas, wSh, wDr, jSh, lSh, lNm, pSh, pOp, oSh, oLb, oNm, uSh, uNm, uFr, uTo, wX, wY, wX2, wY2, jX, jY, lX, lY, pX, pY, par, pPt, rnk] using o_
  · intro p_ h_
    have o_ := D.2.2.2.2.2.1.1 p_ (by simpa [dRk, dN_eN, dL_eL, dI_eI, dL_eN, dI_eN, dN_eL, dI_eL, dN_eI, dL_eI, nS, nW, nJ, nL, nP, nO, nU, bas, wSh, wDr, jSh, lSh, lNm, pSh, pOp, oSh, oLb, oNm, uSh, uNm, uFr, uTo, wX, wY, wX2, wY2, jX, jY, lX, lY, pX, pY, par, pPt, rnk] using h_)
    rw [(A 816 (by omega) (by omega) (by decide) (by omega)).1, (A 817 (by omega) (by omega) (by decide) (by omega)).1, (A 818 (by omega) (by omega) (by decide) (by omega)).2]
    simpa [dRk, dN_eN, dL_eL, dI_eI, dL_eN, dI_eN, dN_eL, dI_eL, dN_eI, dL_eI, nS, nW, nJ, nL, nP, nO, nU, bas, wSh, wDr, jSh, lSh, lNm, pSh, pOp, oSh, oLb, oNm, uSh, uNm, uFr, uTo, wX, wY, wX2, wY2, jX, jY, lX, lY, pX, pY, par, pPt, rnk] using o_
  · intro p_ h_
    have o_ := D.2.2.2.2.2.1.2 p_ h_
    rw [(A 819 (by omega) (by omega) (by decide) (by omega)).1]
    simpa [dRk, dN_eN, dL_eL, dI_eI, dL_eN, dI_eN, dN_eL, dI_eL, dN_eI, dL_eI, nS, nW, nJ, nL, nP, nO, nU, bas, wSh, wDr, jSh, lSh, lNm, pSh, pOp, oSh, oLb, oNm, uSh, uNm, uFr, uTo, wX, wY, wX2, wY2, jX, jY, lX, lY, pX, pY, par, pPt, rnk] using o_
  · intro k_ h_
    have o_ := D.2.2.2.2.2.2.1 k_ (by simpa [dRk, dN_eN, dL_eL, dI_eI, dL_eN, dI_eN, dN_eL, dI_eL, dN_eI, dL_eI, nS, nW, nJ, nL, nP, nO, nU, bas, wSh, wDr, jSh, lSh, lNm, pSh, pOp, oSh, oLb, oNm, uSh, uNm, uFr, uTo, wX, wY, wX2, wY2, jX, jY, lX, lY, pX, pY, par, pPt, rnk] using h_)
    rw [(A 821 (by omega) (by omega) (by decide) (by omega)).1]
    simpa [dRk, dN_eN, dL_eL, dI_eI, dL_eN, dI_eN, dN_eL, dI_eL, dN_eI, dL_eI, nS, nW, nJ, nL, nP, nO, nU, bas, wSh, wDr, jSh, lSh, lNm, pSh, pOp, oSh, oLb, oNm, uSh, uNm, uFr, uTo, wX, wY, wX2, wY2, jX, jY, lX, lY, pX, pY, par, pPt, rnk] using o_
  · intro b_ h_
    have o_ := D.2.2.2.2.2.2.2.1 b_ (by simpa [dRk, dN_eN, dL_eL, dI_eI, dL_eN, dI_eN, dN_eL, dI_eL, dN_eI, dL_eI, nS, nW, nJ, nL, nP, nO, nU, bas, wSh, wDr, jSh, lSh, lNm, pSh, pOp, oSh, oLb, oNm, uSh, uNm, uFr, uTo, wX, wY, wX2, wY2, jX, jY, lX, lY, pX, pY, par, pPt, rnk] using h_)
    rw [(A 823 (by omega) (by omega) (by decide) (by omega)).1]
    simpa [dRk, dN_eN, dL_eL, dI_eI, dL_eN, dI_eN, dN_eL, dI_eL, dN_eI, dL_eI, nS, nW, nJ, nL, nP, nO, nU, bas, wSh, wDr, jSh, lSh, lNm, pSh, pOp, oSh, oLb, oNm, uSh, uNm, uFr, uTo, wX, wY, wX2, wY2, jX, jY, lX, lY, pX, pY, par, pPt, rnk] using o_
  · intro n_ h_
    have o_ := D.2.2.2.2.2.2.2.2 n_ h_
    rw [x2]
    by_cases e_ : n_ = i
    · rw [if_pos e_]; simp [dRk, dN_eN, dL_eL, dI_eI, dL_eN, dI_eN, dN_eL, dI_eL, dN_eI, dL_eI, nS, nW, nJ, nL, nP, nO, nU, bas, wSh, wDr, jSh, lSh, lNm, pSh, pOp, oSh, oLb, oNm, uSh, uNm, uFr, uTo, wX, wY, wX2, wY2, jX, jY, lX, lY, pX, pY, par, pPt, rnk, e_]
    · rw [if_neg e_]; simpa [dRk, dN_eN, dL_eL, dI_eI, dL_eN, dI_eN, dN_eL, dI_eL, dN_eI, dL_eI, nS, nW, nJ, nL, nP, nO, nU, bas, wSh, wDr, jSh, lSh, lNm, pSh, pOp, oSh, oLb, oNm, uSh, uNm, uFr, uTo, wX, wY, wX2, wY2, jX, jY, lX, lY, pX, pY, par, pPt, rnk, e_] using o_
end RDY
