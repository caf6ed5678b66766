/-! PURE HEAPS. gT: the kind of an address (0: none; 1 int[], 2 boolean[], 3 long[], 4 Object[], 5 int[][], 16 + c: an object of class c of vcl); gI, gJ, gR: int, long, reference fields by field number and address; gN: lengths; gA, gL, gQ: contents of arrays -/
abbrev HS : Type := (Nat → Nat) × (Nat → Nat → Int32) × (Nat → Nat → Int64) × (Nat → Nat → Option Nat) × (Nat → Nat) × (Nat → Nat → Int32) × (Nat → Nat → Int64) × (Nat → Nat → Option Nat)
def gT (h : HS) : Nat → Nat := h.1
def gI (h : HS) : Nat → Nat → Int32 := h.2.1
def gJ (h : HS) : Nat → Nat → Int64 := h.2.2.1
def gR (h : HS) : Nat → Nat → Option Nat := h.2.2.2.1
def gN (h : HS) : Nat → Nat := h.2.2.2.2.1
def gA (h : HS) : Nat → Nat → Int32 := h.2.2.2.2.2.1
def gL (h : HS) : Nat → Nat → Int64 := h.2.2.2.2.2.2.1
def gQ (h : HS) : Nat → Nat → Option Nat := h.2.2.2.2.2.2.2
def sI (h : HS) (f a : Nat) (v : Int32) : HS := (gT h, va_up (gI h) f (va_up (gI h f) a v), gJ h, gR h, gN h, gA h, gL h, gQ h)
def sJ (h : HS) (f a : Nat) (v : Int64) : HS := (gT h, gI h, va_up (gJ h) f (va_up (gJ h f) a v), gR h, gN h, gA h, gL h, gQ h)
def sR (h : HS) (f a : Nat) (v : Option Nat) : HS := (gT h, gI h, gJ h, va_up (gR h) f (va_up (gR h f) a v), gN h, gA h, gL h, gQ h)
/-- a whole new content of an array -/
def wA (h : HS) (a : Nat) (g : Nat → Int32) : HS := (gT h, gI h, gJ h, gR h, gN h, va_up (gA h) a g, gL h, gQ h)
def wL (h : HS) (a : Nat) (g : Nat → Int64) : HS := (gT h, gI h, gJ h, gR h, gN h, gA h, va_up (gL h) a g, gQ h)
def wQ (h : HS) (a : Nat) (g : Nat → Option Nat) : HS := (gT h, gI h, gJ h, gR h, gN h, gA h, gL h, va_up (gQ h) a g)
/-- one place of an array -/
def sA (h : HS) (a i : Nat) (v : Int32) : HS := wA h a (va_up (gA h a) i v)
def sL (h : HS) (a i : Nat) (v : Int64) : HS := wL h a (va_up (gL h a) i v)
def sQ (h : HS) (a i : Nat) (v : Option Nat) : HS := wQ h a (va_up (gQ h a) i v)
/-- a new address q, of kind t, of length n -/
def nH (h : HS) (q t n : Nat) : HS := (va_up (gT h) q t, fun f => va_up (gI h f) q 0, fun f => va_up (gJ h f) q 0, fun f => va_up (gR h f) q none, va_up (gN h) q n, va_up (gA h) q (fun _ => 0), va_up (gL h) q (fun _ => 0), va_up (gQ h) q (fun _ => none))
def fv (h : HS) (a f kd : Nat) : Value := if kd = 1 then .long (gJ h f a) else if kd = 2 then va_rf (gR h f a) else .int (gI h f a)
def fl (h : HS) (a ci : Nat) : List Value := (lk ci).mapIdx (fun k kd => fv h a (100 * ci + k) kd)
theorem fl_at {h : HS} {a ci k kd : Nat} (hk : (lk ci)[k]? = some kd) : (fl h a ci)[k]? = some (fv h a (100 * ci + k) kd) := by
  simp [fl, List.getElem?_mapIdx, hk]
abbrev CS : Type := ClassId × ClassId × ClassId × ClassId × ClassId
def toE (cs : CS) (h : HS) (a : Nat) : va_E :=
  if gT h a = 1 then .inl (cs.1, gN h a, .inl (gA h a))
  else if gT h a = 2 then .inl (cs.2.1, gN h a, .inl (gA h a))
  else if gT h a = 3 then .inl (cs.2.2.1, gN h a, .inr (.inl (gL h a)))
  else if gT h a = 4 then .inl (cs.2.2.2.1, gN h a, .inr (.inr (.inr (.inr (gQ h a)))))
  else if gT h a = 5 then .inl (cs.2.2.2.2, gN h a, .inr (.inr (.inr (.inr (gQ h a)))))
  else .inr (gT h a - 16, fl h a (gT h a - 16))
theorem toE_1 {cs : CS} {h : HS} {a : Nat} (e : gT h a = 1) : toE cs h a = .inl (cs.1, gN h a, .inl (gA h a)) := by simp [toE, e]
theorem toE_2 {cs : CS} {h : HS} {a : Nat} (e : gT h a = 2) : toE cs h a = .inl (cs.2.1, gN h a, .inl (gA h a)) := by simp [toE, e]
theorem toE_3 {cs : CS} {h : HS} {a : Nat} (e : gT h a = 3) : toE cs h a = .inl (cs.2.2.1, gN h a, .inr (.inl (gL h a))) := by simp [toE, e]
theorem toE_4 {cs : CS} {h : HS} {a : Nat} (e : gT h a = 4) : toE cs h a = .inl (cs.2.2.2.1, gN h a, .inr (.inr (.inr (.inr (gQ h a))))) := by simp [toE, e]
theorem toE_5 {cs : CS} {h : HS} {a : Nat} (e : gT h a = 5) : toE cs h a = .inl (cs.2.2.2.2, gN h a, .inr (.inr (.inr (.inr (gQ h a))))) := by simp [toE, e]
theorem toE_o {cs : CS} {h : HS} {a ci : Nat} (e : gT h a = 16 + ci) : toE cs h a = .inr (ci, fl h a ci) := by
  simp only [toE, e, show (16 + ci) - 16 = ci by omega]
  rw [if_neg (by omega), if_neg (by omega), if_neg (by omega), if_neg (by omega), if_neg (by omega)]
/-- the cell of an address depends on what its own address has -/
theorem toE_congr {cs : CS} {h h' : HS} {a : Nat} (e1 : gT h' a = gT h a) (e2 : ∀ f, gI h' f a = gI h f a) (e3 : ∀ f, gJ h' f a = gJ h f a) (e4 : ∀ f, gR h' f a = gR h f a) (e5 : gN h' a = gN h a) (e6 : gA h' a = gA h a) (e7 : gL h' a = gL h a) (e8 : gQ h' a = gQ h a) : toE cs h' a = toE cs h a := by
  simp only [toE, e1, e5, e6, e7, e8, fl, fv, e2, e3, e4]
theorem fl_set {h h' : HS} {a ci k kd : Nat} {v : Value} (hk : (lk ci)[k]? = some kd) (e1 : fv h' a (100 * ci + k) kd = v) (e2 : ∀ j kd', j ≠ k → fv h' a (100 * ci + j) kd' = fv h a (100 * ci + j) kd') : fl h' a ci = (fl h a ci).set k v := by
  apply List.ext_getElem?
  intro j
  by_cases hj : j = k
  · subst hj
    have hl : j < (fl h a ci).length := by
      simp only [fl, List.length_mapIdx]
      exact (List.getElem?_eq_some_iff.mp hk).1
    rw [List.getElem?_set_self hl, fl_at hk, e1]
  · rw [List.getElem?_set_ne (Ne.symm hj)]
    simp only [fl, List.getElem?_mapIdx]
    cases h9 : (lk ci)[j]? with
    | none => rfl
    | some kd' => simp [e2 j kd' hj]
theorem toE_put {cs : CS} {h h' : HS} {a ci k kd : Nat} {v : Value} (ht : gT h a = 16 + ci) (hk : (lk ci)[k]? = some kd) (eT : gT h' = gT h) (e1 : fv h' a (100 * ci + k) kd = v) (e2 : ∀ j kd', j ≠ k → fv h' a (100 * ci + j) kd' = fv h a (100 * ci + j) kd') (e3 : ∀ b, b ≠ a → toE cs h' b = toE cs h b) : toE cs h' = va_up (toE cs h) a (.inr (ci, (fl h a ci).set k v)) := by
  funext b
  by_cases hb : b = a
  · subst hb
    rw [va_up_self, toE_o (ci := ci) (by rw [eT]; exact ht), fl_set hk e1 e2]
  · rw [va_up_ne _ _ hb, e3 b hb]
theorem toE_sI {cs : CS} {h : HS} {a ci k : Nat} {v : Int32} (ht : gT h a = 16 + ci) (hk : (lk ci)[k]? = some 0) : toE cs (sI h (100 * ci + k) a v) = va_up (toE cs h) a (.inr (ci, (fl h a ci).set k (.int v))) := by
  refine toE_put ht hk rfl ?_ ?_ ?_
  · simp [fv, gI, sI, va_up]
  · intro j kd' hj
    have : ¬ (100 * ci + j = 100 * ci + k) := by omega
    simp only [fv]
    simp [gI, gJ, gR, sI, va_up, hj]
  · intro b hb
    refine toE_congr rfl (fun f => ?_) (fun _ => rfl) (fun _ => rfl) rfl rfl rfl rfl
    by_cases e : f = 100 * ci + k <;> simp [gI, sI, va_up, e, hb]
theorem toE_sJ {cs : CS} {h : HS} {a ci k : Nat} {v : Int64} (ht : gT h a = 16 + ci) (hk : (lk ci)[k]? = some 1) : toE cs (sJ h (100 * ci + k) a v) = va_up (toE cs h) a (.inr (ci, (fl h a ci).set k (.long v))) := by
  refine toE_put ht hk rfl ?_ ?_ ?_
  · simp [fv, gJ, sJ, va_up]
  · intro j kd' hj
    simp only [fv]
    simp [gI, gJ, gR, sJ, va_up, hj]
  · intro b hb
    refine toE_congr rfl (fun _ => rfl) (fun f => ?_) (fun _ => rfl) rfl rfl rfl rfl
    by_cases e : f = 100 * ci + k <;> simp [gJ, sJ, va_up, e, hb]
theorem toE_sR {cs : CS} {h : HS} {a ci k : Nat} {v : Option Nat} (ht : gT h a = 16 + ci) (hk : (lk ci)[k]? = some 2) : toE cs (sR h (100 * ci + k) a v) = va_up (toE cs h) a (.inr (ci, (fl h a ci).set k (va_rf v))) := by
  refine toE_put ht hk rfl ?_ ?_ ?_
  · simp [fv, gR, sR, va_up]
  · intro j kd' hj
    simp only [fv]
    simp [gI, gJ, gR, sR, va_up, hj]
  · intro b hb
    refine toE_congr rfl (fun _ => rfl) (fun _ => rfl) (fun f => ?_) rfl rfl rfl rfl
    by_cases e : f = 100 * ci + k <;> simp [gR, sR, va_up, e, hb]
theorem toE_wA {cs : CS} {h : HS} {a : Nat} {g : Nat → Int32} {x : va_E} (hx : toE cs (wA h a g) a = x) : toE cs (wA h a g) = va_up (toE cs h) a x := by
  funext b
  by_cases hb : b = a
  · subst hb; rw [va_up_self, hx]
  · rw [va_up_ne _ _ hb]
    exact toE_congr rfl (fun _ => rfl) (fun _ => rfl) (fun _ => rfl) rfl (by simp [gA, wA, va_up, hb]) rfl rfl
theorem toE_wL {cs : CS} {h : HS} {a : Nat} {g : Nat → Int64} {x : va_E} (hx : toE cs (wL h a g) a = x) : toE cs (wL h a g) = va_up (toE cs h) a x := by
  funext b
  by_cases hb : b = a
  · subst hb; rw [va_up_self, hx]
  · rw [va_up_ne _ _ hb]
    exact toE_congr rfl (fun _ => rfl) (fun _ => rfl) (fun _ => rfl) rfl rfl (by simp [gL, wL, va_up, hb]) rfl
theorem toE_wQ {cs : CS} {h : HS} {a : Nat} {g : Nat → Option Nat} {x : va_E} (hx : toE cs (wQ h a g) a = x) : toE cs (wQ h a g) = va_up (toE cs h) a x := by
  funext b
  by_cases hb : b = a
  · subst hb; rw [va_up_self, hx]
  · rw [va_up_ne _ _ hb]
    exact toE_congr rfl (fun _ => rfl) (fun _ => rfl) (fun _ => rfl) rfl rfl rfl (by simp [gQ, wQ, va_up, hb])
theorem toE_nH {cs : CS} {h : HS} {q t n : Nat} {x : va_E} (hx : toE cs (nH h q t n) q = x) : toE cs (nH h q t n) = va_up (toE cs h) q x := by
  funext b
  by_cases hb : b = q
  · subst hb; rw [va_up_self, hx]
  · rw [va_up_ne _ _ hb]
    exact toE_congr (by simp [gT, nH, va_up, hb]) (fun _ => by simp [gI, nH, va_up, hb]) (fun _ => by simp [gJ, nH, va_up, hb]) (fun _ => by simp [gR, nH, va_up, hb]) (by simp [gN, nH, va_up, hb]) (by simp [gA, nH, va_up, hb]) (by simp [gL, nH, va_up, hb]) (by simp [gQ, nH, va_up, hb])
theorem gA_wA (h : HS) (a : Nat) (g : Nat → Int32) : gA (wA h a g) a = g := by simp [gA, wA, va_up]
theorem gL_wL (h : HS) (a : Nat) (g : Nat → Int64) : gL (wL h a g) a = g := by simp [gL, wL, va_up]
theorem gQ_wQ (h : HS) (a : Nat) (g : Nat → Option Nat) : gQ (wQ h a g) a = g := by simp [gQ, wQ, va_up]
theorem gT_nH (h : HS) (q t n : Nat) : gT (nH h q t n) q = t := by simp [gT, nH, va_up]
/-! THE MACHINE's HEAP HOLDS A PURE ONE -/
def mP (D : va_G) (cs : CS) (A : Nat → Prop) (h : HS) (H : Heap) : Prop := ∃ L : List Nat, (∀ a, a ∈ L ↔ gT h a ≠ 0) ∧ va_P D vcl ([] ++ va_pl L (toE cs h)) H ∧ va_D A ([] ++ va_pl L (toE cs h))
def mR (D : va_G) (cs : CS) (A : Nat → Prop) (h : HS) (H0 H : Heap) (locs : List Loc) : Prop := mP D cs A h H ∧ va_S A H0 H locs
def mtys (cs : CS) : List (ClassId × FieldType) := [(cs.1, .int), (cs.2.1, .boolean), (cs.2.2.1, .long), (cs.2.2.2.1, .object "java/lang/Object"), (cs.2.2.2.2, .array .int)]
theorem mP.at {D : va_G} {cs : CS} {A : Nat → Prop} {h : HS} {H : Heap} (hP : mP D cs A h H) {a : Nat} (ht : gT h a ≠ 0) : va_at D vcl (a, toE cs h a) H ∧ A a := by
  obtain ⟨L, hL, hP, hD⟩ := hP
  obtain ⟨k, hk⟩ := va_pl_get (X := []) (f := toE cs h) ((hL a).mpr ht)
  exact ⟨hP k _ hk, hD.2 k _ hk⟩
/-- a cell is written -/
theorem mP.put {D : va_G} {cs : CS} {A : Nat → Prop} {h h' : HS} {H1 : Heap} {L : List Nat} {k a : Nat} {x : va_E} (hL : ∀ a, a ∈ L ↔ gT h a ≠ 0) (hD : va_D A ([] ++ va_pl L (toE cs h))) (hk : ([] ++ va_pl L (toE cs h))[k]? = some (a, toE cs h a)) (hm : a ∈ L) (eT : gT h' = gT h) (e : toE cs h' = va_up (toE cs h) a x) (hP1 : va_P D vcl (([] ++ va_pl L (toE cs h)).set k (a, x)) H1) (hD1 : va_D A (([] ++ va_pl L (toE cs h)).set k (a, x))) : mP D cs A h' H1 := by
  rw [va_pl_set hD hm hk] at hP1 hD1
  exact ⟨L, fun b => by rw [eT]; exact hL b, by rw [e]; exact hP1, by rw [e]; exact hD1⟩
/-- a cell is made -/
theorem mP.new {D : va_G} {cs : CS} {A : Nat → Prop} {h : HS} {H1 : Heap} {L : List Nat} {q t n : Nat} {x : va_E} (hL : ∀ a, a ∈ L ↔ gT h a ≠ 0) (ht : t ≠ 0) (hx : toE cs (nH h q t n) q = x) (hP1 : va_P D vcl (([] ++ va_pl L (toE cs h)) ++ [(q, x)]) H1) (hD1 : va_D A (([] ++ va_pl L (toE cs h)) ++ [(q, x)])) : mP D cs A (nH h q t n) H1 ∧ gT h q = 0 := by
  have hq : q ∉ L := va_pl_fresh2 hD1
  have h0 : gT h q = 0 := Classical.byContradiction fun z => hq ((hL q).mpr z)
  refine ⟨⟨L ++ [q], fun b => ?_, ?_, ?_⟩, h0⟩
  · rw [List.mem_append, List.mem_singleton, hL b]
    by_cases hb : b = q
    · subst hb; simp [gT_nH, ht]
    · simp [gT, nH, va_up, hb]
  · rw [toE_nH hx]
    rw [List.nil_append, va_pl_push hq] at hP1
    exact hP1
  · rw [toE_nH hx]
    rw [List.nil_append, va_pl_push hq] at hD1
    exact hD1
