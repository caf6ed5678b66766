/-! THE TABLE: 15 0 the object, 15 1 least, 15 2 leastBefore, 15 3 net, 15 4 size, 15 5 isChanged -/
def TS (vx : Nat) (A : Nat → Nat → Nat) (B : Nat → Nat × Nat) (h : HS) : Prop :=
  (gR h 11 vx = some (A 15 0) ∧ B vx = (0, 0) ∧ ∀ i, i < 6 → B (A 15 i) = (15, i)) ∧ gT h (A 15 0) = 19 ∧
  (gR h 300 (A 15 0) = some (A 15 1) ∧ gT h (A 15 1) = 1 ∧ gN h (A 15 1) = 960) ∧ (gR h 301 (A 15 0) = some (A 15 2) ∧ gT h (A 15 2) = 1 ∧ gN h (A 15 2) = 960) ∧
  (gR h 302 (A 15 0) = some (A 15 3) ∧ gT h (A 15 3) = 1 ∧ gN h (A 15 3) = 960) ∧ (gR h 303 (A 15 0) = some (A 15 4) ∧ gT h (A 15 4) = 1 ∧ gN h (A 15 4) = 960) ∧
  (gR h 304 (A 15 0) = some (A 15 5) ∧ gT h (A 15 5) = 2 ∧ gN h (A 15 5) = 960)
def TD (A : Nat → Nat → Nat) (h : HS) (le nt sz : Nat → Int32) (c u : Int32) : Prop := gA h (A 15 1) = le ∧ gA h (A 15 3) = nt ∧ gA h (A 15 4) = sz ∧ gI h 305 (A 15 0) = c ∧ gI h 306 (A 15 0) = u
/-- all but the table's own cells, and leastBefore, isChanged -/
abbrev smT (A : Nat → Nat → Nat) : HS → HS → Prop := sm (fun a => a ≠ A 15 0 ∧ a ≠ A 15 1 ∧ a ≠ A 15 3 ∧ a ≠ A 15 4)
section TBL
variable {Z : Nat → Nat} {vx : Nat} {A : Nat → Nat → Nat} {B : Nat → Nat × Nat} {h : HS} {d : DS} {U : Nat → Nat → Prop} {lt : Nat → Nat}
theorem TS.frame {h' : HS} (T : TS vx A B h) (c : ∀ a, ((B a).1 = 0 ∨ (B a).1 = 15) → ce h h' a) : TS vx A B h' := by
  obtain ⟨⟨t1, t2, t3⟩, t4, t5, t6, t7, t8, t9⟩ := T
  have cv := c vx (Or.inl (by rw [t2]))
  have ci : ∀ i, i < 6 → ce h h' (A 15 i) := fun i hi => c _ (Or.inr (by rw [t3 i hi]))
  have c0 := ci 0 (by omega)
  have c1 := ci 1 (by omega)
  have c2 := ci 2 (by omega)
  have c3 := ci 3 (by omega)
  have c4 := ci 4 (by omega)
  have c5 := ci 5 (by omega)
  refine ⟨⟨by rw [cv.R]; exact t1, t2, t3⟩, by rw [c0.T]; exact t4, ⟨by rw [c0.R]; exact t5.1, by rw [c1.T]; exact t5.2.1, by rw [c1.N]; exact t5.2.2⟩, ⟨by rw [c0.R]; exact t6.1, by rw [c2.T]; exact t6.2.1, by rw [c2.N]; exact t6.2.2⟩, ⟨by rw [c0.R]; exact t7.1, by rw [c3.T]; exact t7.2.1, by rw [c3.N]; exact t7.2.2⟩, ⟨by rw [c0.R]; exact t8.1, by rw [c4.T]; exact t8.2.1, by rw [c4.N]; exact t8.2.2⟩, ⟨by rw [c0.R]; exact t9.1, by rw [c5.T]; exact t9.2.1, by rw [c5.N]; exact t9.2.2⟩⟩
theorem TS.sA (T : TS vx A B h) {a i : Nat} {v : Int32} : TS vx A B (sA h a i v) := by
  unfold TS at T ⊢
  simp only [gR_sA, gT_sA, gN_sA]
  exact T
theorem TS.sI (T : TS vx A B h) {f a : Nat} {v : Int32} : TS vx A B (sI h f a v) := by
  unfold TS at T ⊢
  simp only [gR_sI, gT_sI, gN_sI]
  exact T
theorem TS.ne (T : TS vx A B h) {i j : Nat} (hi : i < 6) (hj : j < 6) (n : i ≠ j) : A 15 i ≠ A 15 j := fun e => by
  have h1 := T.1.2.2 i hi
  have h2 := T.1.2.2 j hj
  rw [e, h2] at h1
  exact n (Prod.mk.inj h1).2.symm
theorem XJ.frame {h' : HS} (X : XJ Z vx A B h d lt U) (c : ∀ a, (B a).1 ≤ 14 → ce h h' a) : XJ Z vx A B h' d lt U := by
  obtain ⟨C, T, lj, J, L⟩ := X
  exact ⟨C.frame fun a ha => c a (by omega), T.frame fun a ha => c a (by omega), lj, J.frame fun a ha => c a (by omega), L⟩
theorem XJ.jroot {post : Int32 → HS → Prop} {lj : Nat → Nat} (hJ : LD lj U) (X : XJ Z vx A B h d lt U) {a : Nat} (ha : vl (jl (nS d)) 17 a) (kk : ∀ h', XJ Z vx A B h' d lt U → sm (fun a => (B a).1 ≠ 14) h h' → post (nI (lj a)) h') : wp_Joins_root Z post h (A 13 0) (nI a) := by
  obtain ⟨C, T, le, J, L⟩ := X
  refine sp_root J.2.2 ha fun h' J' s => ?_
  have s' : sm (fun a => (B a).1 ≠ 14) h h' := sm_of s fun a ha r hr e => by
    rw [e, J.2.1.2.2.2 r hr] at ha; exact ha rfl
  have := kk h' ⟨C.frame fun a ha => s' a (by intro z; omega), T.frame fun a ha => s' a (by intro z; omega), le, ⟨?_, J.2.1, J'⟩, L⟩ s'
  · rw [hJ.uniq L (fun _ _ => Iff.rfl) a] at this
    exact this
  · rw [(s' vx (by show (B vx).1 ≠ 14; rw [J.2.1.1]; decide)).R]; exact J.1
theorem nI_max {a b : Nat} (ha : a < 2 ^ 31) (hb : b < 2 ^ 31) : (if nI a < nI b then nI b else nI a) = nI (max a b) := by
  split
  · rename_i z; rw [nI_ltI ha hb] at z; rw [Nat.max_eq_right (by omega)]
  · rename_i z; rw [nI_ltI ha hb] at z; rw [Nat.max_eq_left (by omega)]
theorem gA_same (g : HS) (a i : Nat) (v : Int32) {f : Nat → Int32} (e : gA g a = f) : gA (sA g a i v) a = va_up f i v := by
  funext j; rw [gA_sA, e]; unfold va_up; simp
theorem gA_other (g : HS) {a b : Nat} (i : Nat) (v : Int32) (e : b ≠ a) : gA (sA g a i v) b = gA g b := by
  funext j; rw [gA_sA, if_neg (fun w => e w.1)]
theorem sp_put61 {post : HS → Prop} {g : HS} {le nt sz : Nat → Int32} {c' : Int32} {c m V : Nat} (Tg : TS vx A B g) (D : TD A g le nt sz c' (nI V)) (hc : c < 960) (hm : m < 960) (e : nt c = nI m)
    (kk : ∀ h', TS vx A B h' → TD A h' le nt (va_up sz m (sz m + 1)) c' (nI V) → smT A g h' → post h') : wj_Tab_put_61 Z post (A 15 0) (nI c) g := by
  obtain ⟨g1, g2, g3, g4, g5⟩ := D
  obtain ⟨⟨t1, t2, t3⟩, t4, ⟨p1, p2, p3⟩, ⟨q1, q2, q3⟩, ⟨r1, r2, r3⟩, ⟨s1, s2, s3⟩, ⟨u1, u2, u3⟩⟩ := id Tg
  have n14 := Tg.ne (i := 1) (j := 4) (by omega) (by omega) (by omega)
  have n34 := Tg.ne (i := 3) (j := 4) (by omega) (by omega) (by omega)
  have e' : gA g (A 15 3) c = nI m := by rw [g2, e]
  unfold wj_Tab_put_61
  rw [jr_cl (by omega)]
  refine ⟨t4, t4, A 15 3, r1, r2, by rw [r3]; exact pk_in c _ hc, A 15 4, s1, s2, ?_⟩
  rw [e', jr_cl (by omega)]
  refine ⟨by rw [s3]; exact pk_in m _ hm, A 15 4, s1, s2, by rw [s3]; exact pk_in m _ hm, ?_⟩
  intro h9 e9
  rw [g3] at e9
  refine kk h9 (by rw [e9]; exact Tg.sA) ⟨?_, ?_, ?_, ?_, ?_⟩ (by rw [e9]; exact fun a ha => ce_sA ha.2.2.2)
  · rw [e9, gA_other _ _ _ n14]; exact g1
  · rw [e9, gA_other _ _ _ n34]; exact g2
  · rw [e9]; exact gA_same _ _ _ _ g3
  · rw [e9, gI_sA]; exact g4
  · rw [e9, gI_sA]; exact g5
theorem sp_put {post : HS → Prop} {le nt sz : Nat → Int32} {cc : Int32} {V c r m : Nat} (T : TS vx A B h) (D : TD A h le nt sz cc (nI V)) (hc : c < 960) (hr : r < 960) (hV : V ≤ 960) (hm : m < 960) (m1 : r = c → cc = nI m) (m2 : r ≠ c → nt r = nI m)
    (kk : ∀ h', TS vx A B h' → TD A h' (va_up le c (nI r)) (va_up nt c (nI m)) (va_up sz m (sz m + 1)) (if r = c then cc + 1 else cc) (nI (max V (c + 1))) → smT A h h' → post h') : wp_Tab_put Z post h (A 15 0) (nI c) (nI r) := by
  obtain ⟨d1, d2, d3, d4, d5⟩ := D
  have n13 := T.ne (i := 1) (j := 3) (by omega) (by omega) (by omega)
  have n14 := T.ne (i := 1) (j := 4) (by omega) (by omega) (by omega)
  have n34 := T.ne (i := 3) (j := 4) (by omega) (by omega) (by omega)
  refine ⟨T.2.1, T.2.1, ?_⟩
  intro h3 e3
  rw [d5, nI_1, nI_max (by omega) (by omega)] at e3
  have T3 : TS vx A B h3 := by rw [e3]; exact T.sI
  have s3 : smT A h h3 := by rw [e3]; exact fun a ha => ce_sI ha.1
  have D3 : TD A h3 le nt sz cc (nI (max V (c + 1))) := by
    refine ⟨?_, ?_, ?_, ?_, ?_⟩
    · rw [e3, gA_sI]; exact d1
    · rw [e3, gA_sI]; exact d2
    · rw [e3, gA_sI]; exact d3
    · rw [e3, gI_sI, if_neg (by omega)]; exact d4
    · rw [e3, gI_sI, if_pos ⟨rfl, rfl⟩]
  clear e3
  obtain ⟨d1, d2, d3, d4, d5⟩ := D3
  refine ⟨T3.2.1, A 15 1, T3.2.2.1.1, T3.2.2.1.2.1, by rw [T3.2.2.1.2.2]; exact pk_in c _ hc, ?_⟩
  intro h7 e7
  rw [jr_cl (by omega)] at e7
  have T7 : TS vx A B h7 := by rw [e7]; exact T3.sA
  have s7 : smT A h h7 := sm_tr s3 (by rw [e7]; exact fun a ha => ce_sA ha.2.1)
  have D7 : TD A h7 (va_up le c (nI r)) nt sz cc (nI (max V (c + 1))) := by
    refine ⟨?_, ?_, ?_, ?_, ?_⟩
    · rw [e7]; exact gA_same _ _ _ _ d1
    · rw [e7, gA_other _ _ _ (Ne.symm n13)]; exact d2
    · rw [e7, gA_other _ _ _ (Ne.symm n14)]; exact d3
    · rw [e7, gI_sA]; exact d4
    · rw [e7, gI_sA]; exact d5
  clear e7
  obtain ⟨d1, d2, d3, d4, d5⟩ := D7
  obtain ⟨r1, r2, r3⟩ := T7.2.2.2.2.1
  constructor
  · intro ne
    have ne' : r ≠ c := fun z => ne (by rw [z])
    refine ⟨T7.2.1, T7.2.1, A 15 3, r1, r2, by rw [r3]; exact pk_in r _ hr, A 15 3, r1, r2, by rw [r3]; exact pk_in c _ hc, ?_⟩
    intro h15 e15
    rw [jr_cl (by omega), jr_cl (by omega), d2, m2 ne'] at e15
    have T15 : TS vx A B h15 := by rw [e15]; exact T7.sA
    refine sp_put61 T15 (le := va_up le c (nI r)) (nt := va_up nt c (nI m)) (sz := sz) (c' := cc) (V := max V (c + 1)) ⟨?_, ?_, ?_, ?_, ?_⟩ hc hm (va_up_self _ _ _) fun h' T' D' s' => kk h' T' (by rw [if_neg ne']; exact D') (sm_tr s7 (sm_tr (by rw [e15]; exact fun a ha => ce_sA ha.2.2.1) s'))
    · rw [e15, gA_other _ _ _ n13]; exact d1
    · rw [e15]; exact gA_same _ _ _ _ d2
    · rw [e15, gA_other _ _ _ (Ne.symm n34)]; exact d3
    · rw [e15, gI_sA]; exact d4
    · rw [e15, gI_sA]; exact d5
  · intro e
    have e' : r = c := (nI_eq (by omega) (by omega)).mp e
    refine ⟨T7.2.1, T7.2.1, A 15 3, r1, r2, by rw [r3]; exact pk_in c _ hc, ?_⟩
    intro h20 e20
    rw [jr_cl (by omega), d4, m1 e'] at e20
    have T20 : TS vx A B h20 := by rw [e20]; exact T7.sA
    refine ⟨T20.2.1, T20.2.1, ?_⟩
    intro h23 e23
    have c20 : gI h20 305 (A 15 0) = nI m := by rw [e20, gI_sA, d4, m1 e']
    rw [c20] at e23
    have T23 : TS vx A B h23 := by rw [e23]; exact T20.sI
    have s20 : smT A h7 h20 := by rw [e20]; exact fun a ha => ce_sA ha.2.2.1
    have s23 : smT A h20 h23 := by rw [e23]; exact fun a ha => ce_sI ha.1
    refine sp_put61 T23 (le := va_up le c (nI r)) (nt := va_up nt c (nI m)) (sz := sz) (c' := nI m + 1) (V := max V (c + 1)) ⟨?_, ?_, ?_, ?_, ?_⟩ hc hm (va_up_self _ _ _) fun h' T' D' s' => kk h' T' (by rw [if_pos e', m1 e']; exact D') (sm_tr s7 (sm_tr s20 (sm_tr s23 s')))
    · rw [e23, gA_sI, e20, gA_other _ _ _ n13]; exact d1
    · rw [e23, gA_sI, e20]; exact gA_same _ _ _ _ d2
    · rw [e23, gA_sI, e20, gA_other _ _ _ (Ne.symm n34)]; exact d3
    · rw [e23, gI_sI, if_pos ⟨rfl, rfl⟩]
    · rw [e23, gI_sI, if_neg (by omega), e20, gI_sA]; exact d5
theorem sp_copiesOf {post : Int32 → HS → Prop} (hd : WF d) (C : CD Z vx A B h d) {s : Nat} (hs : drw d s) (kk : post (nI (cps d s)) h) : wp_NJ_copiesOf Z post h vx (nI s) := by
  have hS := hd.1.1
  obtain ⟨o1, o2, o3, o4, o5, o6⟩ := C.S hs.1
  have hs1 := hs.1
  refine br_f (nI_pos (by have := hs.1; omega)) ⟨C.x, A 1 0, C.p (by omega), C.lT (by omega), sp_size C.sh (pk_le (nS d) s (fun z => by have := hs.1; omega) (fun z => ⟨C.x, A 1 0, C.p (by omega), C.lT (by omega), sp_get C.sh z ⟨cst o1, A 3 s, rfl, o1, ?_⟩⟩))⟩
  rw [o6 hs.2]; exact kk
/-- the numbers, as far as K -/
def NT (d : DS) (A : Nat → Nat → Nat) (h : HS) (K : Nat) : Prop := ∃ le nt sz V, TD A h le nt sz (nI (cn (fst d) K)) (nI V) ∧ V ≤ 960 ∧ (∀ k, k < K → vR d k → le (ck d k) = nI (ck d (lst d k)) ∧ nt (ck d k) = nI (nn d k) ∧ ck d k < V) ∧ (∀ n, n < 960 → sz n = nI (cn (fun k => vR d k ∧ nn d k = n) K)) ∧ ∀ j, j < 960 → (∀ k, vR d k → j ≠ ck d k) → le j = -1
theorem NT.skip {K L : Nat} (N : NT d A h K) (hKL : K ≤ L) (no : ∀ k, K ≤ k → k < L → ¬ vR d k) : NT d A h L := by
  obtain ⟨le, nt, sz, V, D, h1, h2, h3, h4⟩ := N
  refine ⟨le, nt, sz, V, ?_, h1, fun k hk v => h2 k (Nat.lt_of_not_le fun z => no k z hk v) v, fun n hn => ?_, h4⟩
  · rw [cn_skip hKL fun k a b p => no k a b p.1]; exact D
  · rw [cn_skip hKL fun k a b p => no k a b p.1]; exact h3 n hn
theorem NT.frame {h' : HS} {K : Nat} (N : NT d A h K) (c : ∀ i, i < 6 → ce h h' (A 15 i)) : NT d A h' K := by
  obtain ⟨le, nt, sz, V, ⟨d1, d2, d3, d4, d5⟩, h1⟩ := N
  exact ⟨le, nt, sz, V, ⟨by rw [(c 1 (by omega)).A]; exact d1, by rw [(c 3 (by omega)).A]; exact d2, by rw [(c 4 (by omega)).A]; exact d3, by rw [(c 0 (by omega)).I]; exact d4, by rw [(c 0 (by omega)).I]; exact d5⟩, h1⟩
/-- one copy more -/
theorem NT.put {post : HS → Prop} {k : Nat} (hd : WF d) (T : TS vx A B h) (N : NT d A h k) (hk : vR d k) (kk : ∀ h', TS vx A B h' → NT d A h' (k + 1) → smT A h h' → post h') : wp_Tab_put Z post h (A 15 0) (nI (ck d k)) (nI (ck d (lst d k))) := by
  obtain ⟨le, nt, sz, V, D, h1, h2, h3, h4⟩ := N
  obtain ⟨l1, l2, l3, l4⟩ := lst_spec hk
  have b1 := (ck_lt hd hk).1
  have b2 := (ck_lt hd l1).1
  have b3 := nn_lt hd hk
  have eqv : ck d (lst d k) = ck d k ↔ lst d k = k := ⟨fun e => ck_inj hd l1 hk e, fun e => by rw [e]⟩
  refine sp_put T D b1 b2 h1 (m := nn d k) (by omega) (fun e => ?_) (fun e => ?_) fun h' T' D' s' => kk h' T' ⟨va_up le (ck d k) (nI (ck d (lst d k))), va_up nt (ck d k) (nI (nn d k)), va_up sz (nn d k) (sz (nn d k) + 1), max V (ck d k + 1), ?_, by omega, fun j hj v => ?_, fun n hn => ?_, fun j hj nv => ?_⟩ s'
  · rw [nn_fst ((fst_iff hk).mpr (eqv.mp e))]
  · have ne : lst d k ≠ k := fun z => e (eqv.mpr z)
    rw [(h2 (lst d k) (by omega) l1).2.1, (nn_eq l1 hk).mpr l2]
  · have : (if ck d (lst d k) = ck d k then nI (cn (fst d) k) + 1 else nI (cn (fst d) k)) = nI (cn (fst d) (k + 1)) := by
      by_cases z : lst d k = k
      · rw [if_pos (eqv.mpr z), cn_s ((fst_iff hk).mpr z), nI_1]
      · rw [if_neg (fun w => z (eqv.mp w)), cn_n (fun w => z ((fst_iff hk).mp w))]
    rw [← this]; exact D'
  · by_cases z : j = k
    · subst z
      rw [va_up_self, va_up_self]
      exact ⟨rfl, rfl, by omega⟩
    · have ne : ck d j ≠ ck d k := fun w => z (ck_inj hd v hk w)
      rw [va_up_ne _ _ ne, va_up_ne _ _ ne]
      obtain ⟨g1, g2, g3⟩ := h2 j (by omega) v
      exact ⟨g1, g2, by omega⟩
  · by_cases z : n = nn d k
    · subst z
      rw [va_up_self, h3 _ hn, cn_s ⟨hk, rfl⟩, nI_1]
    · rw [va_up_ne _ _ z, h3 n hn, cn_n (fun w => z w.2.symm)]
  · rw [va_up_ne _ _ (nv k hk)]; exact h4 j hj nv
end TBL
