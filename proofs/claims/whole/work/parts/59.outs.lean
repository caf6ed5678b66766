/-! WHAT EACH CALL ANSWERS: 0 or the number of what is thrown, the answer, the state then -/
abbrev ST : Type := DS × (Nat → Prop)
abbrev OUT : Type := Nat × Int32 × ST
noncomputable def cif {α : Type} (p : Prop) (a b : α) : α := @ite α p (Classical.propDecidable p) a b
theorem cif_t {α : Type} {p : Prop} {a b : α} (h : p) : cif p a b = a := if_pos h
theorem cif_f {α : Type} {p : Prop} {a b : α} (h : ¬ p) : cif p a b = b := if_neg h
def isS (d : DS) (x : Int32) : Prop := ∃ s, s < nS d ∧ x = nI s
def isD (d : DS) (x : Int32) : Prop := ∃ s, drw d s ∧ x = nI s
def isN (x : Int32) : Prop := ∃ n, n < 1000 ∧ x = nI n
abbrev tn (x : Int32) : Nat := x.toNatClampNeg
def nx (s : ST) (d : DS) : ST := (d, Chg s.1 d)
noncomputable def o_ref (s : ST) (x : Int32) (good : Prop) (rest : OUT) : OUT := cif (isS s.1 x) (cif (isD s.1 x) (cif good rest (3, 0, s)) (2, 0, s)) (1, 0, s)
noncomputable def o_wire (s : ST) (x : Int32) (a b c e : Int64) : OUT := o_ref s x (plA a b ∧ plA c e ∧ ¬ (a = c ∧ b = e)) (cif (nW s.1 = 100) (0, -1, s) (0, nI (nW s.1), nx s (dWi s.1 (tn x) a b c e)))
noncomputable def o_junction (s : ST) (x : Int32) (a b : Int64) : OUT := o_ref s x (plA a b) (cif (nJ s.1 = 50 ∨ ∃ k, k < nJ s.1 ∧ jSh s.1 k = tn x ∧ jX s.1 k = a ∧ jY s.1 k = b) (0, 0, s) (0, 1, nx s (dJu s.1 (tn x) a b)))
noncomputable def o_label (s : ST) (x : Int32) (a b : Int64) (n : Int32) : OUT := o_ref s x (plA a b ∧ isN n) (cif (nL s.1 = 60) (0, -1, s) (0, nI (nL s.1), nx s (dLa s.1 (tn x) a b (tn n))))
noncomputable def o_pin (s : ST) (x : Int32) (a b : Int64) (p : Int32) : OUT := o_ref s x (plA a b) (cif (nP s.1 = 60 ∨ ∃ k, k < nP s.1 ∧ pSh s.1 k = tn x ∧ pPt s.1 k = p ∧ pX s.1 k = a ∧ pY s.1 k = b) (0, -1, s) (0, nI (nP s.1), nx s (dPi s.1 (tn x) a b p)))
noncomputable def o_port (s : ST) (x l n : Int32) : OUT := cif (isS s.1 x ∧ ∃ j, j < nL s.1 ∧ l = nI j ∧ lSh s.1 j = bas s.1 (tn x)) (cif (par s.1 (tn x) ≠ -1) (cif (isN n) (cif (nO s.1 = 30 ∨ ∃ k, k < nO s.1 ∧ oSh s.1 k = tn x ∧ oLb s.1 k = tn l ∧ oNm s.1 k = tn n) (0, 0, s) (0, 1, nx s (dPo s.1 (tn x) (tn l) (tn n)))) (3, 0, s)) (2, 0, s)) (1, 0, s)
noncomputable def o_bus (s : ST) (x n f t : Int32) : OUT := o_ref s x (isN n ∧ isN f ∧ isN t) (cif (nU s.1 = 16 ∨ ∃ k, k < nU s.1 ∧ uSh s.1 k = tn x ∧ uNm s.1 k = tn n ∧ uFr s.1 k = tn f ∧ uTo s.1 k = tn t) (0, 0, s) (0, 1, nx s (dBu s.1 (tn x) (tn n) (tn f) (tn t))))
noncomputable def o_sheet (s : ST) (p o : Int32) : OUT := cif ((p = -1 ∨ isS s.1 p) ∧ (o = -1 ∨ isS s.1 o)) (cif (o = -1 ∨ isD s.1 o) (cif (nS s.1 = 16) (0, -1, s) (0, nI (nS s.1), nx s (dSh s.1 p (cif (o = -1) (nS s.1) (tn o))))) (2, 0, s)) (1, 0, s)
noncomputable def o_drop (s : ST) (w : Int32) : OUT := cif (∃ k, k < nW s.1 ∧ w = nI k ∧ wDr s.1 k = 0) (0, nI (cn (Chg s.1 (dDr s.1 (tn w))) (cnt (dDr s.1 (tn w)))), nx s (dDr s.1 (tn w))) (1, 0, s)
noncomputable def o_rank (s : ST) (n r : Int32) : OUT := cif (isN n ∧ (-9 : Int32) ≤ r ∧ r ≤ (9 : Int32)) (cif (rnk s.1 (tn n) = r) (0, 0, s) (0, 1, (dRk s.1 (tn n) r, s.2))) (1, 0, s)
noncomputable def o_open (s : ST) (p : Int32) : OUT := cif (∃ k, k < nP s.1 ∧ p = nI k) (0, nI (1 - pOp s.1 (tn p)), (dOp s.1 (tn p) (1 - pOp s.1 (tn p)), s.2)) (1, 0, s)
theorem tn_nI {n : Nat} (h : n < 2 ^ 31) : tn (nI n) = n := jr_cl h
section OUTS
variable {s : ST} {x : Int32} {good : Prop} {rest : OUT}
theorem o_ref1 (h : ¬ isS s.1 x) : o_ref s x good rest = (1, 0, s) := cif_f h
theorem o_ref2 {k : Nat} (hS : nS s.1 ≤ 16) (h1 : k < nS s.1) (h2 : bas s.1 k ≠ k) (e : x = nI k) : o_ref s x good rest = (2, 0, s) := by
  unfold o_ref
  rw [cif_t ⟨k, h1, e⟩, cif_f]
  rintro ⟨j, j1, j2⟩
  have j3 := j1.1
  rw [e, nI_eq (by omega) (by omega)] at j2
  subst j2; exact h2 j1.2
theorem o_ref3 {k : Nat} (h1 : drw s.1 k) (e : x = nI k) (g : ¬ good) : o_ref s x good rest = (3, 0, s) := by
  unfold o_ref; rw [cif_t ⟨k, h1.1, e⟩, cif_t ⟨k, h1, e⟩, cif_f g]
theorem o_ref0 {k : Nat} (h1 : drw s.1 k) (e : x = nI k) (g : good) : o_ref s x good rest = rest := by
  unfold o_ref; rw [cif_t ⟨k, h1.1, e⟩, cif_t ⟨k, h1, e⟩, cif_t g]
end OUTS
