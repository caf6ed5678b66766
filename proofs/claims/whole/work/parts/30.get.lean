/-! what is read behind a write -/
theorem gT_sI (h : HS) (f a : Nat) (v : Int32) : gT (sI h f a v) = gT h := rfl
theorem gI_sI (h : HS) (f a : Nat) (v : Int32) (f' a' : Nat) : gI (sI h f a v) f' a' = if f' = f ∧ a' = a then v else gI h f' a' := by
  unfold gI sI va_up
  by_cases e1 : f' = f
  · subst e1; by_cases e2 : a' = a
    · subst e2; (simp <;> rfl)
    · (simp [e2] <;> rfl)
  · (simp [e1] <;> rfl)
theorem gJ_sI (h : HS) (f a : Nat) (v : Int32) : gJ (sI h f a v) = gJ h := rfl
theorem gR_sI (h : HS) (f a : Nat) (v : Int32) : gR (sI h f a v) = gR h := rfl
theorem gN_sI (h : HS) (f a : Nat) (v : Int32) : gN (sI h f a v) = gN h := rfl
theorem gA_sI (h : HS) (f a : Nat) (v : Int32) : gA (sI h f a v) = gA h := rfl
theorem gL_sI (h : HS) (f a : Nat) (v : Int32) : gL (sI h f a v) = gL h := rfl
theorem gQ_sI (h : HS) (f a : Nat) (v : Int32) : gQ (sI h f a v) = gQ h := rfl
theorem gT_sJ (h : HS) (f a : Nat) (v : Int64) : gT (sJ h f a v) = gT h := rfl
theorem gI_sJ (h : HS) (f a : Nat) (v : Int64) : gI (sJ h f a v) = gI h := rfl
theorem gJ_sJ (h : HS) (f a : Nat) (v : Int64) (f' a' : Nat) : gJ (sJ h f a v) f' a' = if f' = f ∧ a' = a then v else gJ h f' a' := by
  unfold gJ sJ va_up
  by_cases e1 : f' = f
  · subst e1; by_cases e2 : a' = a
    · subst e2; (simp <;> rfl)
    · (simp [e2] <;> rfl)
  · (simp [e1] <;> rfl)
theorem gR_sJ (h : HS) (f a : Nat) (v : Int64) : gR (sJ h f a v) = gR h := rfl
theorem gN_sJ (h : HS) (f a : Nat) (v : Int64) : gN (sJ h f a v) = gN h := rfl
theorem gA_sJ (h : HS) (f a : Nat) (v : Int64) : gA (sJ h f a v) = gA h := rfl
theorem gL_sJ (h : HS) (f a : Nat) (v : Int64) : gL (sJ h f a v) = gL h := rfl
theorem gQ_sJ (h : HS) (f a : Nat) (v : Int64) : gQ (sJ h f a v) = gQ h := rfl
theorem gT_sR (h : HS) (f a : Nat) (v : Option Nat) : gT (sR h f a v) = gT h := rfl
theorem gI_sR (h : HS) (f a : Nat) (v : Option Nat) : gI (sR h f a v) = gI h := rfl
theorem gJ_sR (h : HS) (f a : Nat) (v : Option Nat) : gJ (sR h f a v) = gJ h := rfl
theorem gR_sR (h : HS) (f a : Nat) (v : Option Nat) (f' a' : Nat) : gR (sR h f a v) f' a' = if f' = f ∧ a' = a then v else gR h f' a' := by
  unfold gR sR va_up
  by_cases e1 : f' = f
  · subst e1; by_cases e2 : a' = a
    · subst e2; (simp <;> rfl)
    · (simp [e2] <;> rfl)
  · (simp [e1] <;> rfl)
theorem gN_sR (h : HS) (f a : Nat) (v : Option Nat) : gN (sR h f a v) = gN h := rfl
theorem gA_sR (h : HS) (f a : Nat) (v : Option Nat) : gA (sR h f a v) = gA h := rfl
theorem gL_sR (h : HS) (f a : Nat) (v : Option Nat) : gL (sR h f a v) = gL h := rfl
theorem gQ_sR (h : HS) (f a : Nat) (v : Option Nat) : gQ (sR h f a v) = gQ h := rfl
theorem gT_sA (h : HS) (a i : Nat) (v : Int32) : gT (sA h a i v) = gT h := rfl
theorem gI_sA (h : HS) (a i : Nat) (v : Int32) : gI (sA h a i v) = gI h := rfl
theorem gJ_sA (h : HS) (a i : Nat) (v : Int32) : gJ (sA h a i v) = gJ h := rfl
theorem gR_sA (h : HS) (a i : Nat) (v : Int32) : gR (sA h a i v) = gR h := rfl
theorem gN_sA (h : HS) (a i : Nat) (v : Int32) : gN (sA h a i v) = gN h := rfl
theorem gA_sA (h : HS) (a i : Nat) (v : Int32) (a' i' : Nat) : gA (sA h a i v) a' i' = if a' = a ∧ i' = i then v else gA h a' i' := by
  unfold gA sA wA va_up
  by_cases e1 : a' = a
  · subst e1; by_cases e2 : i' = i
    · subst e2; (simp <;> rfl)
    · (simp [e2] <;> rfl)
  · (simp [e1] <;> rfl)
theorem gL_sA (h : HS) (a i : Nat) (v : Int32) : gL (sA h a i v) = gL h := rfl
theorem gQ_sA (h : HS) (a i : Nat) (v : Int32) : gQ (sA h a i v) = gQ h := rfl
theorem gT_sL (h : HS) (a i : Nat) (v : Int64) : gT (sL h a i v) = gT h := rfl
theorem gI_sL (h : HS) (a i : Nat) (v : Int64) : gI (sL h a i v) = gI h := rfl
theorem gJ_sL (h : HS) (a i : Nat) (v : Int64) : gJ (sL h a i v) = gJ h := rfl
theorem gR_sL (h : HS) (a i : Nat) (v : Int64) : gR (sL h a i v) = gR h := rfl
theorem gN_sL (h : HS) (a i : Nat) (v : Int64) : gN (sL h a i v) = gN h := rfl
theorem gA_sL (h : HS) (a i : Nat) (v : Int64) : gA (sL h a i v) = gA h := rfl
theorem gL_sL (h : HS) (a i : Nat) (v : Int64) (a' i' : Nat) : gL (sL h a i v) a' i' = if a' = a ∧ i' = i then v else gL h a' i' := by
  unfold gL sL wL va_up
  by_cases e1 : a' = a
  · subst e1; by_cases e2 : i' = i
    · subst e2; (simp <;> rfl)
    · (simp [e2] <;> rfl)
  · (simp [e1] <;> rfl)
theorem gQ_sL (h : HS) (a i : Nat) (v : Int64) : gQ (sL h a i v) = gQ h := rfl
theorem gT_sQ (h : HS) (a i : Nat) (v : Option Nat) : gT (sQ h a i v) = gT h := rfl
theorem gI_sQ (h : HS) (a i : Nat) (v : Option Nat) : gI (sQ h a i v) = gI h := rfl
theorem gJ_sQ (h : HS) (a i : Nat) (v : Option Nat) : gJ (sQ h a i v) = gJ h := rfl
theorem gR_sQ (h : HS) (a i : Nat) (v : Option Nat) : gR (sQ h a i v) = gR h := rfl
theorem gN_sQ (h : HS) (a i : Nat) (v : Option Nat) : gN (sQ h a i v) = gN h := rfl
theorem gA_sQ (h : HS) (a i : Nat) (v : Option Nat) : gA (sQ h a i v) = gA h := rfl
theorem gL_sQ (h : HS) (a i : Nat) (v : Option Nat) : gL (sQ h a i v) = gL h := rfl
theorem gQ_sQ (h : HS) (a i : Nat) (v : Option Nat) (a' i' : Nat) : gQ (sQ h a i v) a' i' = if a' = a ∧ i' = i then v else gQ h a' i' := by
  unfold gQ sQ wQ va_up
  by_cases e1 : a' = a
  · subst e1; by_cases e2 : i' = i
    · subst e2; (simp <;> rfl)
    · (simp [e2] <;> rfl)
  · (simp [e1] <;> rfl)
theorem gT_wA (h : HS) (a : Nat) (w : Nat → Int32) : gT (wA h a w) = gT h := rfl
theorem gI_wA (h : HS) (a : Nat) (w : Nat → Int32) : gI (wA h a w) = gI h := rfl
theorem gJ_wA (h : HS) (a : Nat) (w : Nat → Int32) : gJ (wA h a w) = gJ h := rfl
theorem gR_wA (h : HS) (a : Nat) (w : Nat → Int32) : gR (wA h a w) = gR h := rfl
theorem gN_wA (h : HS) (a : Nat) (w : Nat → Int32) : gN (wA h a w) = gN h := rfl
theorem gA_wA2 (h : HS) (a : Nat) (w : Nat → Int32) (a' : Nat) : gA (wA h a w) a' = if a' = a then w else gA h a' := by
  unfold gA wA va_up
  by_cases e1 : a' = a
  · subst e1; (simp <;> rfl)
  · (simp [e1] <;> rfl)
theorem gL_wA (h : HS) (a : Nat) (w : Nat → Int32) : gL (wA h a w) = gL h := rfl
theorem gQ_wA (h : HS) (a : Nat) (w : Nat → Int32) : gQ (wA h a w) = gQ h := rfl
theorem gT_wL (h : HS) (a : Nat) (w : Nat → Int64) : gT (wL h a w) = gT h := rfl
theorem gI_wL (h : HS) (a : Nat) (w : Nat → Int64) : gI (wL h a w) = gI h := rfl
theorem gJ_wL (h : HS) (a : Nat) (w : Nat → Int64) : gJ (wL h a w) = gJ h := rfl
theorem gR_wL (h : HS) (a : Nat) (w : Nat → Int64) : gR (wL h a w) = gR h := rfl
theorem gN_wL (h : HS) (a : Nat) (w : Nat → Int64) : gN (wL h a w) = gN h := rfl
theorem gA_wL (h : HS) (a : Nat) (w : Nat → Int64) : gA (wL h a w) = gA h := rfl
theorem gL_wL2 (h : HS) (a : Nat) (w : Nat → Int64) (a' : Nat) : gL (wL h a w) a' = if a' = a then w else gL h a' := by
  unfold gL wL va_up
  by_cases e1 : a' = a
  · subst e1; (simp <;> rfl)
  · (simp [e1] <;> rfl)
theorem gQ_wL (h : HS) (a : Nat) (w : Nat → Int64) : gQ (wL h a w) = gQ h := rfl
theorem gT_wQ (h : HS) (a : Nat) (w : Nat → Option Nat) : gT (wQ h a w) = gT h := rfl
theorem gI_wQ (h : HS) (a : Nat) (w : Nat → Option Nat) : gI (wQ h a w) = gI h := rfl
theorem gJ_wQ (h : HS) (a : Nat) (w : Nat → Option Nat) : gJ (wQ h a w) = gJ h := rfl
theorem gR_wQ (h : HS) (a : Nat) (w : Nat → Option Nat) : gR (wQ h a w) = gR h := rfl
theorem gN_wQ (h : HS) (a : Nat) (w : Nat → Option Nat) : gN (wQ h a w) = gN h := rfl
theorem gA_wQ (h : HS) (a : Nat) (w : Nat → Option Nat) : gA (wQ h a w) = gA h := rfl
theorem gL_wQ (h : HS) (a : Nat) (w : Nat → Option Nat) : gL (wQ h a w) = gL h := rfl
theorem gQ_wQ2 (h : HS) (a : Nat) (w : Nat → Option Nat) (a' : Nat) : gQ (wQ h a w) a' = if a' = a then w else gQ h a' := by
  unfold gQ wQ va_up
  by_cases e1 : a' = a
  · subst e1; (simp <;> rfl)
  · (simp [e1] <;> rfl)
theorem gT_nH2 (h : HS) (q t n : Nat) (a : Nat) : gT (nH h q t n) a = if a = q then t else gT h a := by
  unfold gT nH va_up
  by_cases e1 : a = q <;> (simp [e1] <;> rfl)
theorem gI_nH2 (h : HS) (q t n : Nat) (f a : Nat) : gI (nH h q t n) f a = if a = q then 0 else gI h f a := by
  unfold gI nH va_up
  by_cases e1 : a = q <;> (simp [e1] <;> rfl)
theorem gJ_nH2 (h : HS) (q t n : Nat) (f a : Nat) : gJ (nH h q t n) f a = if a = q then 0 else gJ h f a := by
  unfold gJ nH va_up
  by_cases e1 : a = q <;> (simp [e1] <;> rfl)
theorem gR_nH2 (h : HS) (q t n : Nat) (f a : Nat) : gR (nH h q t n) f a = if a = q then none else gR h f a := by
  unfold gR nH va_up
  by_cases e1 : a = q <;> (simp [e1] <;> rfl)
theorem gN_nH2 (h : HS) (q t n : Nat) (a : Nat) : gN (nH h q t n) a = if a = q then n else gN h a := by
  unfold gN nH va_up
  by_cases e1 : a = q <;> (simp [e1] <;> rfl)
theorem gA_nH2 (h : HS) (q t n : Nat) (a : Nat) : gA (nH h q t n) a = if a = q then (fun _ => 0) else gA h a := by
  unfold gA nH va_up
  by_cases e1 : a = q <;> (simp [e1] <;> rfl)
theorem gL_nH2 (h : HS) (q t n : Nat) (a : Nat) : gL (nH h q t n) a = if a = q then (fun _ => 0) else gL h a := by
  unfold gL nH va_up
  by_cases e1 : a = q <;> (simp [e1] <;> rfl)
theorem gQ_nH2 (h : HS) (q t n : Nat) (a : Nat) : gQ (nH h q t n) a = if a = q then (fun _ => none) else gQ h a := by
  unfold gQ nH va_up
  by_cases e1 : a = q <;> (simp [e1] <;> rfl)
/-! cells: what an address has; what stays -/
def ce (h h' : HS) (a : Nat) : Prop := gT h' a = gT h a ∧ (∀ f, gI h' f a = gI h f a) ∧ (∀ f, gJ h' f a = gJ h f a) ∧ (∀ f, gR h' f a = gR h f a) ∧ gN h' a = gN h a ∧ gA h' a = gA h a ∧ gL h' a = gL h a ∧ gQ h' a = gQ h a
def sm (P : Nat → Prop) (h h' : HS) : Prop := ∀ a, P a → ce h h' a
theorem ce_rf (h : HS) (a : Nat) : ce h h a := ⟨rfl, fun _ => rfl, fun _ => rfl, fun _ => rfl, rfl, rfl, rfl, rfl⟩
theorem ce_tr {h h1 h2 : HS} {a : Nat} (x : ce h h1 a) (y : ce h1 h2 a) : ce h h2 a :=
  ⟨y.1.trans x.1, fun f => (y.2.1 f).trans (x.2.1 f), fun f => (y.2.2.1 f).trans (x.2.2.1 f), fun f => (y.2.2.2.1 f).trans (x.2.2.2.1 f), y.2.2.2.2.1.trans x.2.2.2.2.1, y.2.2.2.2.2.1.trans x.2.2.2.2.2.1, y.2.2.2.2.2.2.1.trans x.2.2.2.2.2.2.1, y.2.2.2.2.2.2.2.trans x.2.2.2.2.2.2.2⟩
theorem sm_rf {P : Nat → Prop} {h : HS} : sm P h h := fun a _ => ce_rf h a
theorem sm_tr {P : Nat → Prop} {h h1 h2 : HS} (x : sm P h h1) (y : sm P h1 h2) : sm P h h2 := fun a p => ce_tr (x a p) (y a p)
theorem sm_of {P Q : Nat → Prop} {h h' : HS} (x : sm P h h') (q : ∀ a, Q a → P a) : sm Q h h' := fun a p => x a (q a p)
theorem ce.T {h h' : HS} {a : Nat} (x : ce h h' a) : gT h' a = gT h a := x.1
theorem ce.I {h h' : HS} {a : Nat} (x : ce h h' a) (f : Nat) : gI h' f a = gI h f a := x.2.1 f
theorem ce.J {h h' : HS} {a : Nat} (x : ce h h' a) (f : Nat) : gJ h' f a = gJ h f a := x.2.2.1 f
theorem ce.R {h h' : HS} {a : Nat} (x : ce h h' a) (f : Nat) : gR h' f a = gR h f a := x.2.2.2.1 f
theorem ce.N {h h' : HS} {a : Nat} (x : ce h h' a) : gN h' a = gN h a := x.2.2.2.2.1
theorem ce.A {h h' : HS} {a : Nat} (x : ce h h' a) : gA h' a = gA h a := x.2.2.2.2.2.1
theorem ce.L {h h' : HS} {a : Nat} (x : ce h h' a) : gL h' a = gL h a := x.2.2.2.2.2.2.1
theorem ce.Q {h h' : HS} {a : Nat} (x : ce h h' a) : gQ h' a = gQ h a := x.2.2.2.2.2.2.2
theorem ce_sI {h : HS} {f a : Nat} {v : Int32} {b : Nat} (hb : b ≠ a) : ce h (sI h f a v) b := by
  refine ⟨?_, fun f' => ?_, fun f' => ?_, fun f' => ?_, ?_, ?_, ?_, ?_⟩ <;> first | rfl | (simp [gI_sI, hb]; done) | (funext i'; simp [gI_sI, hb]; done)
theorem ce_sJ {h : HS} {f a : Nat} {v : Int64} {b : Nat} (hb : b ≠ a) : ce h (sJ h f a v) b := by
  refine ⟨?_, fun f' => ?_, fun f' => ?_, fun f' => ?_, ?_, ?_, ?_, ?_⟩ <;> first | rfl | (simp [gJ_sJ, hb]; done) | (funext i'; simp [gJ_sJ, hb]; done)
theorem ce_sR {h : HS} {f a : Nat} {v : Option Nat} {b : Nat} (hb : b ≠ a) : ce h (sR h f a v) b := by
  refine ⟨?_, fun f' => ?_, fun f' => ?_, fun f' => ?_, ?_, ?_, ?_, ?_⟩ <;> first | rfl | (simp [gR_sR, hb]; done) | (funext i'; simp [gR_sR, hb]; done)
theorem ce_sA {h : HS} {a i : Nat} {v : Int32} {b : Nat} (hb : b ≠ a) : ce h (sA h a i v) b := by
  refine ⟨?_, fun f' => ?_, fun f' => ?_, fun f' => ?_, ?_, ?_, ?_, ?_⟩ <;> first | rfl | (simp [gA_sA, hb]; done) | (funext i'; simp [gA_sA, hb]; done)
theorem ce_sL {h : HS} {a i : Nat} {v : Int64} {b : Nat} (hb : b ≠ a) : ce h (sL h a i v) b := by
  refine ⟨?_, fun f' => ?_, fun f' => ?_, fun f' => ?_, ?_, ?_, ?_, ?_⟩ <;> first | rfl | (simp [gL_sL, hb]; done) | (funext i'; simp [gL_sL, hb]; done)
theorem ce_sQ {h : HS} {a i : Nat} {v : Option Nat} {b : Nat} (hb : b ≠ a) : ce h (sQ h a i v) b := by
  refine ⟨?_, fun f' => ?_, fun f' => ?_, fun f' => ?_, ?_, ?_, ?_, ?_⟩ <;> first | rfl | (simp [gQ_sQ, hb]; done) | (funext i'; simp [gQ_sQ, hb]; done)
theorem ce_wA {h : HS} {a : Nat} {w : Nat → Int32} {b : Nat} (hb : b ≠ a) : ce h (wA h a w) b := by
  refine ⟨?_, fun f' => ?_, fun f' => ?_, fun f' => ?_, ?_, ?_, ?_, ?_⟩ <;> first | rfl | (simp [gA_wA2, hb]; done) | (funext i'; simp [gA_wA2, hb]; done)
theorem ce_wL {h : HS} {a : Nat} {w : Nat → Int64} {b : Nat} (hb : b ≠ a) : ce h (wL h a w) b := by
  refine ⟨?_, fun f' => ?_, fun f' => ?_, fun f' => ?_, ?_, ?_, ?_, ?_⟩ <;> first | rfl | (simp [gL_wL2, hb]; done) | (funext i'; simp [gL_wL2, hb]; done)
theorem ce_wQ {h : HS} {a : Nat} {w : Nat → Option Nat} {b : Nat} (hb : b ≠ a) : ce h (wQ h a w) b := by
  refine ⟨?_, fun f' => ?_, fun f' => ?_, fun f' => ?_, ?_, ?_, ?_, ?_⟩ <;> first | rfl | (simp [gQ_wQ2, hb]; done) | (funext i'; simp [gQ_wQ2, hb]; done)
theorem ce_nH {h : HS} {q t n b : Nat} (hb : b ≠ q) : ce h (nH h q t n) b := by
  refine ⟨?_, fun f' => ?_, fun f' => ?_, fun f' => ?_, ?_, ?_, ?_, ?_⟩ <;> simp [gT_nH2, gI_nH2, gJ_nH2, gR_nH2, gN_nH2, gA_nH2, gL_nH2, gQ_nH2, hb]
