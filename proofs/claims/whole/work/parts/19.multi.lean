/-! new int[n][0] -/
theorem mP.push {D : va_G} {cs : CS} {A : Nat → Prop} {h : HS} {H H1 : Heap} {t n : Nat} {x : va_E} (hP : mP D cs A h H) (ht : t ≠ 0) (hx : toE cs (nH h H.size t n) H.size = x) (hat : va_at D vcl (H.size, x) H1) (hold : ∀ q, q < H.size → H1[q]? = H[q]?) (hA : A H.size) : mP D cs A (nH h H.size t n) H1 ∧ gT h H.size = 0 := by
  obtain ⟨L, hL, hP, hD⟩ := hP
  have hP1 : va_P D vcl (([] ++ va_pl L (toE cs h)) ++ [(H.size, x)]) H1 := (hP.kept (fun k q hk => hold q.1 ((hP k q hk).lt))).app (fun k q hk => by
    have hz : k < 1 := (List.getElem?_eq_some_iff.mp hk).1
    rw [show k = 0 by omega] at hk
    cases hk
    exact hat)
  exact mP.new hL ht hx hP1 (hD.push hP rfl hA)
theorem mP.upd {D : va_G} {cs : CS} {A : Nat → Prop} {h h' : HS} {H H1 : Heap} {a : Nat} {x : va_E} (hP : mP D cs A h H) (ht : gT h a ≠ 0) (eT : gT h' = gT h) (e : toE cs h' = va_up (toE cs h) a x) (hat : va_at D vcl (a, x) H1) (oq : ∀ q, q ≠ a → H1[q]? = H[q]?) : mP D cs A h' H1 := by
  obtain ⟨L, hL, hP, hD⟩ := hP
  have hm : a ∈ L := (hL a).mpr ht
  obtain ⟨q0, hq⟩ := va_pl_get (X := []) (f := toE cs h) hm
  exact mP.put hL hD hq hm eT e (hP.set hD hq hat oq) (hD.set hq)
/-- the pure heap behind k rows of new int[N][0] -/
def mN (h : HS) (q N : Nat) : Nat → HS
  | 0 => nH h q 5 N
  | k + 1 => sQ (nH (mN h q N k) (q + 1 + k) 1 0) q k (some (q + 1 + k))
/-- the outer array behind k rows -/
def mO (q k : Nat) : Nat → Option Nat := fun j => if j < k then some (q + 1 + j) else none
def mF (S : State) (cA cI : ClassId) (N : Nat) : Nat → State
  | 0 => S.pushCell (arrV cA N (fun j => va_rf (mO S.heap.size 0 j)))
  | k + 1 => ((mF S cA cI N k).pushCell (arrV cI 0 (fun _ => .int 0))).setCell S.heap.size (arrV cA N (fun j => va_rf (mO S.heap.size (k + 1) j)))
theorem mO_up (q k : Nat) : va_up (mO q k) k (some (q + 1 + k)) = mO q (k + 1) := by
  funext j
  by_cases hj : j = k
  · subst hj; simp [va_up, mO]
  · by_cases hl : j < k
    · simp [va_up, mO, hj, hl, Nat.lt_succ_of_lt hl]
    · simp [va_up, mO, hj, hl, show ¬ j < k + 1 by omega]
theorem mF_facts (S : State) (cA cI : ClassId) (N : Nat) : ∀ k, (mF S cA cI N k).heap.size = S.heap.size + 1 + k ∧ (mF S cA cI N k).heap[S.heap.size]? = some (arrV cA N (fun j => va_rf (mO S.heap.size k j))) ∧ (mF S cA cI N k).vm = S.vm ∧ (mF S cA cI N k).slotsUsed = S.slotsUsed + N
  | 0 => ⟨by simp [mF], by simp [mF], rfl, by simp [mF, arrV_size]⟩
  | k + 1 => by
    obtain ⟨f1, f2, f3, f4⟩ := mF_facts S cA cI N k
    have hlt : S.heap.size < (mF S cA cI N k).heap.size := by omega
    have hc : ((mF S cA cI N k).pushCell (arrV cI 0 (fun _ => .int 0))).heap[S.heap.size]? = some (arrV cA N (fun j => va_rf (mO S.heap.size k j))) := by rw [State.heap_pushCell_of_lt (h := hlt)]; exact f2
    refine ⟨?_, State.heap_setCell_self hc, by simp [mF, f3], ?_⟩
    · simp [mF, State.setCell, f1]; omega
    · simp [mF, f4, arrV_size]
theorem mF_top (S : State) (g : JFrame) (cA cI : ClassId) (N : Nat) : ∀ k, mF (S.setTop g) cA cI N k = (mF S cA cI N k).setTop g
  | 0 => rfl
  | k + 1 => by simp only [mF, mF_top S g cA cI N k, State.heap_setTop, State.pushCell_setTop, State.setCell_setTop]
theorem mF_pure {D : va_G} {cs : CS} {A : Nat → Prop} {h : HS} {S : State} {N : Nat} (hP : mP D cs A h S.heap) (hA : ∀ q, S.heap.size ≤ q → A q) : ∀ k, k ≤ N → mP D cs A (mN h S.heap.size N k) (mF S cs.2.2.2.2 cs.1 N k).heap ∧ (∀ j, j ≤ k → gT h (S.heap.size + j) = 0) ∧ (∀ q, q < S.heap.size → (mF S cs.2.2.2.2 cs.1 N k).heap[q]? = S.heap[q]?) ∧ gT (mN h S.heap.size N k) S.heap.size = 5 ∧ gN (mN h S.heap.size N k) S.heap.size = N ∧ gQ (mN h S.heap.size N k) S.heap.size = mO S.heap.size k ∧ ∀ j, k < j → gT (mN h S.heap.size N k) (S.heap.size + j) = gT h (S.heap.size + j) := by
  intro k
  induction k with
  | zero =>
    intro _
    have hold : ∀ q, q < S.heap.size → (mF S cs.2.2.2.2 cs.1 N 0).heap[q]? = S.heap[q]? := fun q hq => State.heap_pushCell_of_lt _ _ hq
    have hnew : (mF S cs.2.2.2.2 cs.1 N 0).heap[S.heap.size]? = some (arrV cs.2.2.2.2 N (fun j => va_rf (mO S.heap.size 0 j))) := (mF_facts S cs.2.2.2.2 cs.1 N 0).2.1
    obtain ⟨h1, h2⟩ := mP.push (t := 5) (n := N) (x := .inl (cs.2.2.2.2, N, .inr (.inr (.inr (.inr (mO S.heap.size 0)))))) hP (by decide) (by
      rw [toE_5 (gT_nH h S.heap.size 5 N)]
      have e1 : gN (nH h S.heap.size 5 N) S.heap.size = N := by simp [gN, nH, va_up]
      have e2 : gQ (nH h S.heap.size 5 N) S.heap.size = mO S.heap.size 0 := by funext j; simp [gQ, nH, va_up, mO]
      rw [e1, e2]) hnew hold (hA _ (Nat.le_refl _))
    refine ⟨h1, fun j hj => ?_, hold, ?_, ?_, ?_, fun j hj => ?_⟩
    · rw [show j = 0 by omega]; exact h2
    · simp [mN, gT, nH, va_up]
    · simp [mN, gN, nH, va_up]
    · funext j; simp [mN, gQ, nH, va_up, mO]
    · have : S.heap.size + j ≠ S.heap.size := by omega
      simp [mN, gT, nH, va_up, show j ≠ 0 by omega]
  | succ k ih =>
    intro hk
    obtain ⟨i1, i2, i3, i4, i5, i6, i7⟩ := ih (by omega)
    obtain ⟨f1, f2, f3, f4⟩ := mF_facts S cs.2.2.2.2 cs.1 N k
    generalize hG : mF S cs.2.2.2.2 cs.1 N k = G at i1 i3 f1 f2 f3 f4
    have hlt : S.heap.size < G.heap.size := by omega
    have hold : ∀ q, q < G.heap.size → (G.pushCell (arrV cs.1 0 (fun _ => .int 0))).heap[q]? = G.heap[q]? := fun q hq => State.heap_pushCell_of_lt _ _ hq
    have hnew : (G.pushCell (arrV cs.1 0 (fun _ => .int 0))).heap[G.heap.size]? = some (arrV cs.1 0 (fun _ => .int 0)) := State.heap_pushCell_size _ _
    obtain ⟨h1, h2⟩ := mP.push (t := 1) (n := 0) (x := .inl (cs.1, 0, .inl (fun _ => 0))) i1 (by decide) (by
      rw [toE_1 (gT_nH _ _ _ _)]
      simp [gN, gA, nH, va_up]) hnew hold (hA _ (by omega))
    rw [f1] at h1 h2
    have hne : S.heap.size ≠ S.heap.size + 1 + k := by omega
    have q4 : gT (nH (mN h S.heap.size N k) (S.heap.size + 1 + k) 1 0) S.heap.size = 5 := by
      have : gT (nH (mN h S.heap.size N k) (S.heap.size + 1 + k) 1 0) S.heap.size = gT (mN h S.heap.size N k) S.heap.size := by simp [gT, nH, va_up, hne]
      rw [this]; exact i4
    have q5 : gN (nH (mN h S.heap.size N k) (S.heap.size + 1 + k) 1 0) S.heap.size = N := by
      have : gN (nH (mN h S.heap.size N k) (S.heap.size + 1 + k) 1 0) S.heap.size = gN (mN h S.heap.size N k) S.heap.size := by simp [gN, nH, va_up, hne]
      rw [this]; exact i5
    have q6 : gQ (nH (mN h S.heap.size N k) (S.heap.size + 1 + k) 1 0) S.heap.size = mO S.heap.size k := by
      have : gQ (nH (mN h S.heap.size N k) (S.heap.size + 1 + k) 1 0) S.heap.size = gQ (mN h S.heap.size N k) S.heap.size := by simp [gQ, nH, va_up, hne]
      rw [this]; exact i6
    have e8 : mF S cs.2.2.2.2 cs.1 N (k + 1) = (G.pushCell (arrV cs.1 0 (fun _ => .int 0))).setCell S.heap.size (arrV cs.2.2.2.2 N (fun j => va_rf (mO S.heap.size (k + 1) j))) := by rw [← hG]; rfl
    have hcell : (G.pushCell (arrV cs.1 0 (fun _ => .int 0))).heap[S.heap.size]? = some (arrV cs.2.2.2.2 N (fun j => va_rf (mO S.heap.size k j))) := by rw [hold _ hlt]; exact f2
    have g6 : gQ (mN h S.heap.size N (k + 1)) S.heap.size = mO S.heap.size (k + 1) := by
      show gQ (wQ _ _ _) _ = _
      rw [gQ_wQ, q6, mO_up]
    have g5 : gN (mN h S.heap.size N (k + 1)) S.heap.size = N := q5
    have g4 : gT (mN h S.heap.size N (k + 1)) S.heap.size = 5 := q4
    rw [e8]
    refine ⟨mP.upd (a := S.heap.size) (x := .inl (cs.2.2.2.2, N, .inr (.inr (.inr (.inr (mO S.heap.size (k + 1))))))) h1 (by rw [q4]; decide) rfl (toE_wQ ?_) (State.heap_setCell_self hcell) (fun q hq => State.heap_setCell_other (Ne.symm hq)), fun j hj => ?_, fun q hq => ?_, g4, g5, g6, fun j hj => ?_⟩
    · have e9 : toE cs (mN h S.heap.size N (k + 1)) S.heap.size = .inl (cs.2.2.2.2, N, .inr (.inr (.inr (.inr (mO S.heap.size (k + 1)))))) := by rw [toE_5 g4, g5, g6]
      exact e9
    · by_cases hj' : j ≤ k
      · exact i2 j hj'
      · have e9 := i7 j (by omega)
        rw [show j = k + 1 by omega] at e9 ⊢
        rw [← e9, show S.heap.size + (k + 1) = S.heap.size + 1 + k by omega]
        exact h2
    · rw [State.heap_setCell_other (show S.heap.size ≠ q by omega), hold q (by omega)]
      exact i3 q hq
    · have e9 := i7 j (by omega)
      rw [← e9]
      have : S.heap.size + j ≠ S.heap.size + 1 + k := by omega
      simp [mN, gT, sQ, wQ, nH, va_up, this]
section MUL
variable {p : Program} {l : Launch} {e : Env} {R : Room} {s : State} {m : MethodId} {args : Array Value} {below : List Frame} {meth : Method} {c : Code} {T : State} {H : Heap} {locs : List Loc} {cells slots : Nat} {Q : State → Prop}
theorem mF_stand (X : Stand p l e R s m args below meth c T locs cells slots) (cA cI : ClassId) (N : Nat) : ∀ k, Stand p l e R s m args below meth c (mF T cA cI N k) (locs ++ (List.range k).map fun j => ⟨T.heap.size, j⟩) (cells + 1 + k) (slots + N)
  | 0 => by
    have h := X.pushed (arrV cA N (fun j => va_rf (mO T.heap.size 0 j)))
    rw [arrV_size] at h
    simpa [mF] using h
  | k + 1 => by
    have Xk := mF_stand X cA cI N k
    obtain ⟨f1, f2, f3, f4⟩ := mF_facts T cA cI N k
    have hlt : T.heap.size < (mF T cA cI N k).heap.size := by omega
    have hc : ((mF T cA cI N k).pushCell (arrV cI 0 (fun _ => .int 0))).heap[T.heap.size]? = some (arrV cA N (fun j => va_rf (mO T.heap.size k j))) := by rw [State.heap_pushCell_of_lt (h := hlt)]; exact f2
    have h := (Xk.pushed (arrV cI 0 (fun _ => .int 0))).stored hc k (.ref (T.heap.size + 1 + k))
    rw [arrV_size, arrV_store] at h
    have e1 : updV (fun j => va_rf (mO T.heap.size k j)) k (.ref (T.heap.size + 1 + k)) = fun j => va_rf (mO T.heap.size (k + 1) j) := by
      funext j
      rw [← mO_up]
      by_cases hj : j = k
      · subst hj; simp [updV, va_up, va_rf]
      · simp [updV, va_up, hj]
    rw [e1] at h
    have e2 : (locs ++ (List.range (k + 1)).map fun j => (⟨T.heap.size, j⟩ : Loc)) = (locs ++ (List.range k).map fun j => (⟨T.heap.size, j⟩ : Loc)) ++ [⟨T.heap.size, k⟩] := by simp [List.range_succ, List.append_assoc]
    rw [e2]
    exact h
end MUL
