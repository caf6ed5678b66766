/-! DOCUMENTS: what has been told. Numbers, places, ints, by field and index -/
abbrev DS : Type := (Nat → Nat → Nat) × (Nat → Nat → Int64) × (Nat → Nat → Int32)
def dN (d : DS) : Nat → Nat → Nat := d.1
def dL (d : DS) : Nat → Nat → Int64 := d.2.1
def dI (d : DS) : Nat → Nat → Int32 := d.2.2
def eN (d : DS) (f i v : Nat) : DS := (va_up (dN d) f (va_up (dN d f) i v), dL d, dI d)
def eL (d : DS) (f i : Nat) (v : Int64) : DS := (dN d, va_up (dL d) f (va_up (dL d f) i v), dI d)
def eI (d : DS) (f i : Nat) (v : Int32) : DS := (dN d, dL d, va_up (dI d) f (va_up (dI d f) i v))
theorem dN_eN (d : DS) (f i v f' i' : Nat) : dN (eN d f i v) f' i' = if f' = f ∧ i' = i then v else dN d f' i' := by
  unfold dN eN va_up
  by_cases e1 : f' = f
  · subst e1; by_cases e2 : i' = i
    · subst e2; (simp <;> rfl)
    · (simp [e2] <;> rfl)
  · (simp [e1] <;> rfl)
theorem dL_eL (d : DS) (f i : Nat) (v : Int64) (f' i' : Nat) : dL (eL d f i v) f' i' = if f' = f ∧ i' = i then v else dL d f' i' := by
  unfold dL eL va_up
  by_cases e1 : f' = f
  · subst e1; by_cases e2 : i' = i
    · subst e2; (simp <;> rfl)
    · (simp [e2] <;> rfl)
  · (simp [e1] <;> rfl)
theorem dI_eI (d : DS) (f i : Nat) (v : Int32) (f' i' : Nat) : dI (eI d f i v) f' i' = if f' = f ∧ i' = i then v else dI d f' i' := by
  unfold dI eI va_up
  by_cases e1 : f' = f
  · subst e1; by_cases e2 : i' = i
    · subst e2; (simp <;> rfl)
    · (simp [e2] <;> rfl)
  · (simp [e1] <;> rfl)
theorem dL_eN (d : DS) (f i v : Nat) : dL (eN d f i v) = dL d := rfl
theorem dI_eN (d : DS) (f i v : Nat) : dI (eN d f i v) = dI d := rfl
theorem dN_eL (d : DS) (f i : Nat) (v : Int64) : dN (eL d f i v) = dN d := rfl
theorem dI_eL (d : DS) (f i : Nat) (v : Int64) : dI (eL d f i v) = dI d := rfl
theorem dN_eI (d : DS) (f i : Nat) (v : Int32) : dN (eI d f i v) = dN d := rfl
theorem dL_eI (d : DS) (f i : Nat) (v : Int32) : dL (eI d f i v) = dL d := rfl
abbrev nS (d : DS) : Nat := dN d 0 0
abbrev nW (d : DS) : Nat := dN d 0 1
abbrev nJ (d : DS) : Nat := dN d 0 2
abbrev nL (d : DS) : Nat := dN d 0 3
abbrev nP (d : DS) : Nat := dN d 0 4
abbrev nO (d : DS) : Nat := dN d 0 5
abbrev nU (d : DS) : Nat := dN d 0 6
abbrev bas (d : DS) (t : Nat) : Nat := dN d 1 t
abbrev wSh (d : DS) (w : Nat) : Nat := dN d 2 w
abbrev wDr (d : DS) (w : Nat) : Nat := dN d 3 w
abbrev jSh (d : DS) (k : Nat) : Nat := dN d 4 k
abbrev lSh (d : DS) (l : Nat) : Nat := dN d 5 l
abbrev lNm (d : DS) (l : Nat) : Nat := dN d 6 l
abbrev pSh (d : DS) (p : Nat) : Nat := dN d 7 p
abbrev pOp (d : DS) (p : Nat) : Nat := dN d 8 p
abbrev oSh (d : DS) (k : Nat) : Nat := dN d 9 k
abbrev oLb (d : DS) (k : Nat) : Nat := dN d 10 k
abbrev oNm (d : DS) (k : Nat) : Nat := dN d 11 k
abbrev uSh (d : DS) (b : Nat) : Nat := dN d 12 b
abbrev uNm (d : DS) (b : Nat) : Nat := dN d 13 b
abbrev uFr (d : DS) (b : Nat) : Nat := dN d 14 b
abbrev uTo (d : DS) (b : Nat) : Nat := dN d 15 b
abbrev wX (d : DS) (w : Nat) : Int64 := dL d 0 w
abbrev wY (d : DS) (w : Nat) : Int64 := dL d 1 w
abbrev wX2 (d : DS) (w : Nat) : Int64 := dL d 2 w
abbrev wY2 (d : DS) (w : Nat) : Int64 := dL d 3 w
abbrev jX (d : DS) (k : Nat) : Int64 := dL d 4 k
abbrev jY (d : DS) (k : Nat) : Int64 := dL d 5 k
abbrev lX (d : DS) (l : Nat) : Int64 := dL d 6 l
abbrev lY (d : DS) (l : Nat) : Int64 := dL d 7 l
abbrev pX (d : DS) (p : Nat) : Int64 := dL d 8 p
abbrev pY (d : DS) (p : Nat) : Int64 := dL d 9 p
abbrev par (d : DS) (t : Nat) : Int32 := dI d 0 t
abbrev pPt (d : DS) (p : Nat) : Int32 := dI d 1 p
abbrev rnk (d : DS) (n : Nat) : Int32 := dI d 2 n
/-- what holds of every document -/
def WF (d : DS) : Prop :=
  (nS d ≤ 16 ∧ nW d ≤ 100 ∧ nJ d ≤ 50 ∧ nL d ≤ 60 ∧ nP d ≤ 60 ∧ nO d ≤ 30 ∧ nU d ≤ 16) ∧
  (∀ t, t < nS d → bas d t ≤ t ∧ bas d (bas d t) = bas d t ∧ (par d t = -1 ∨ ∃ p, p < nS d ∧ par d t = nI p)) ∧
  (∀ w, w < nW d → wSh d w < nS d ∧ bas d (wSh d w) = wSh d w ∧ wDr d w ≤ 1) ∧
  (∀ k, k < nJ d → jSh d k < nS d ∧ bas d (jSh d k) = jSh d k) ∧
  (∀ l, l < nL d → lSh d l < nS d ∧ bas d (lSh d l) = lSh d l ∧ lNm d l < 1000) ∧
  (∀ p, p < nP d → pSh d p < nS d ∧ bas d (pSh d p) = pSh d p ∧ pOp d p ≤ 1) ∧
  (∀ k, k < nO d → oSh d k < nS d ∧ oLb d k < nL d ∧ lSh d (oLb d k) = bas d (oSh d k) ∧ oNm d k < 1000 ∧ ∃ p, p < nS d ∧ par d (oSh d k) = nI p) ∧
  (∀ b, b < nU d → uSh d b < nS d ∧ bas d (uSh d b) = uSh d b ∧ uNm d b < 1000 ∧ uFr d b < 1000 ∧ uTo d b < 1000)
/-! what touches -/
def thr (d : DS) (w : Nat) (x y : Int64) : Prop :=
  ((wX d w ≤ x ∧ x ≤ wX2 d w) ∨ (wX2 d w ≤ x ∧ x ≤ wX d w)) ∧ ((wY d w ≤ y ∧ y ≤ wY2 d w) ∨ (wY2 d w ≤ y ∧ y ≤ wY d w)) ∧ (wX2 d w - wX d w) * (y - wY d w) = (wY2 d w - wY d w) * (x - wX d w)
def ali (d : DS) (w : Nat) : Prop := w < nW d ∧ wDr d w = 0
def hend (d : DS) (v w : Nat) : Prop :=
  (wX d v = wX d w ∧ wY d v = wY d w) ∨ (wX d v = wX2 d w ∧ wY d v = wY2 d w) ∨ (wX2 d v = wX d w ∧ wY2 d v = wY d w) ∨ (wX2 d v = wX2 d w ∧ wY2 d v = wY2 d w)
/-- pins, then labels from 60 on, then wires from 120 on -/
def isp (d : DS) (a : Nat) : Prop := a < nP d ∨ (60 ≤ a ∧ a < 60 + nL d)
def sSh (d : DS) (a : Nat) : Nat := if a < 60 then pSh d a else lSh d (a - 60)
def sX (d : DS) (a : Nat) : Int64 := if a < 60 then pX d a else lX d (a - 60)
def sY (d : DS) (a : Nat) : Int64 := if a < 60 then pY d a else lY d (a - 60)
def tSh (d : DS) (a : Nat) : Nat := if a < 120 then sSh d a else wSh d (a - 120)
def TT (d : DS) (a b : Nat) : Prop :=
  (∃ v w, ali d v ∧ ali d w ∧ wSh d v = wSh d w ∧ hend d v w ∧ a = 120 + v ∧ b = 120 + w) ∨
  (∃ v w k, k < nJ d ∧ ali d v ∧ ali d w ∧ wSh d v = jSh d k ∧ wSh d w = jSh d k ∧ thr d v (jX d k) (jY d k) ∧ thr d w (jX d k) (jY d k) ∧ a = 120 + v ∧ b = 120 + w) ∨
  (∃ w, ali d w ∧ isp d b ∧ wSh d w = sSh d b ∧ thr d w (sX d b) (sY d b) ∧ a = 120 + w) ∨
  (isp d a ∧ isp d b ∧ sSh d a = sSh d b ∧ sX d a = sX d b ∧ sY d a = sY d b)
/-! copies; nodes of the class, nodes of the reference -/
noncomputable def cp (d : DS) (t : Nat) : Nat := cn (fun s => bas d s = bas d t) t
noncomputable def cps (d : DS) (s : Nat) : Nat := cn (fun t => bas d t = s) (nS d)
def cnm (s n : Nat) : Nat := if 900 ≤ n then 60 + n else 2048 * (1 + s) + n
noncomputable def cnd (d : DS) (t a : Nat) : Nat := if a < 60 then 16 * a + cp d t else cnm t (lNm d (a - 60))
def rnm (s n : Nat) : Nat := 3520 + (if 900 ≤ n then 0 else 1000 * s) + n
def rnd (t a : Nat) : Nat := if a < 60 then 2560 + 16 * a + t else if a < 120 then 1600 + 16 * (a - 60) + t else 16 * (a - 120) + t
/-! buses -/
def mbs (d : DS) (b : Nat) : Nat := 1 + (if uTo d b < uFr d b then uFr d b - uTo d b else uTo d b - uFr d b)
def mem (d : DS) (b i : Nat) : Nat := if uTo d b < uFr d b then uFr d b - i else uFr d b + i
def alike (d : DS) (b t c u : Nat) : Prop := bas d t = uSh d b ∧ bas d u = uSh d c ∧ uNm d b = uNm d c ∧ (t = u ∨ 900 ≤ uNm d b)
def meets (d : DS) (c b : Nat) : Prop := uNm d c = uNm d b ∧ (900 ≤ uNm d b ∨ uSh d c = uSh d b)
def lgb (d : DS) (b c : Nat) : Prop := c < b ∧ meets d c b ∧ (∀ x, x < b → meets d x b → mbs d x ≤ mbs d c) ∧ ∀ x, x < c → meets d x b → mbs d x < mbs d c
def pr (d : DS) (s : Nat) : Nat := (par d s).toNatClampNeg
/-! what the reference joins; what the class joins -/
def SR (d : DS) (n m : Nat) : Prop :=
  (∃ t a b, t < nS d ∧ TT d a b ∧ tSh d a = bas d t ∧ n = rnd t a ∧ m = rnd t b) ∨
  (∃ t l, t < nS d ∧ l < nL d ∧ lSh d l = bas d t ∧ n = rnd t (60 + l) ∧ m = rnm t (lNm d l)) ∨
  (∃ b t c u i, b < nU d ∧ c < nU d ∧ t < nS d ∧ u < nS d ∧ alike d b t c u ∧ i < mbs d b ∧ i < mbs d c ∧ n = rnm t (mem d b i) ∧ m = rnm u (mem d c i)) ∨
  (∃ k, k < nO d ∧ n = rnd (oSh d k) (60 + oLb d k) ∧ m = rnm (pr d (oSh d k)) (oNm d k))
def SP (d : DS) (x y : Nat) : Prop := ∃ t a b, t < nS d ∧ isp d a ∧ isp d b ∧ sSh d a = bas d t ∧ sSh d b = bas d t ∧ EG (TT d) a b ∧ x = cnd d t a ∧ y = cnd d t b
def SB (d : DS) (x y : Nat) : Prop := ∃ b t i, b < nU d ∧ t < nS d ∧ bas d t = uSh d b ∧ i < mbs d b ∧ x = cnm t (mem d b i) ∧
  ((900 ≤ uNm d b ∧ t ≠ uSh d b ∧ y = cnm (uSh d b) (mem d b i)) ∨ (¬ (900 ≤ uNm d b ∧ t ≠ uSh d b) ∧ ∃ c, lgb d b c ∧ i < mbs d c ∧ y = cnm (if 900 ≤ uNm d b then uSh d c else t) (mem d c i)))
def SO (d : DS) (x y : Nat) : Prop := ∃ k, k < nO d ∧ x = cnm (oSh d k) (lNm d (oLb d k)) ∧ y = cnm (pr d (oSh d k)) (oNm d k)
def SC (d : DS) (x y : Nat) : Prop := SP d x y ∨ SB d x y ∨ SO d x y
