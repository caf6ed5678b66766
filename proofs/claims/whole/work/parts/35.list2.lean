section LSQ
variable {Z : Nat → Nat} {h : HS} {l e n : Nat} {f : Nat → Nat}
/-- x comes to stand at the place p -/
def ins (f : Nat → Nat) (p x : Nat) : Nat → Nat := fun i => if i < p then f i else if i = p then x else f (i - 1)
theorem sp_addAt {post : HS → Prop} (L : lL Z h l e n f) (hn : n < 100) (hk : ∀ i, i < n → lsT (gT h (f i))) {x p : Nat} (hp : p ≤ n) (hx : lsT (gT h x))
    (kk : ∀ h' e', ((gT h e = 4 ∧ e' = e) ∨ gT h e' = 0) → lL Z h' l e' (n + 1) (ins f p x) → gR h' 900 l = some e' → gT h' e' = 4 → sm (fun a => a ≠ l ∧ (gT h e = 4 → a ≠ e) ∧ gT h a ≠ 0) h h' → post h') : wp_AL_add3 Z post h l (nI p) (some x) := by
  obtain ⟨h1, h2, h3, h4, h5⟩ := id L
  refine ⟨h1, h1, ?_⟩
  rw [h2]
  refine br_f (nI_nlt hp (by omega)) (br_t (nI_pos' (by omega)) ⟨h1, h1, ?_⟩)
  rintro ha rfl
  have L1 : lL Z (sI h 902 l (gI h 902 l + 1)) l e n f := by
    refine ⟨h1, by rw [gI_sI, if_neg (by omega)]; exact h2, h3, h4, h5⟩
  have c1 : ∀ a, a ≠ l → ce h (sI h 902 l (gI h 902 l + 1)) a := fun a ha => ce_sI ha
  have gR9 : gR (sI h 902 l (gI h 902 l + 1)) 900 l = gR h 900 l := rfl
  generalize sI h 902 l (gI h 902 l + 1) = g at L1 c1 gR9
  have T1 : ∀ a, gT h a ≠ 0 → gT g a = gT h a := fun a ha => by
    by_cases e : a = l
    · subst e; rw [L1.1, h1]
    · exact (c1 a e).T
  have T0 : ∀ a, gT g a = 0 → gT h a = 0 := fun a ha => by
    refine Classical.byContradiction fun z => ?_
    rw [T1 a z] at ha; exact z ha
  obtain ⟨i1, i2, i3, i4, i5⟩ := id L1
  have nz : ∀ t, lsT t → t ≠ 0 := fun t ht => by rcases ht with w | w | w | w | w <;> omega
  have nl : ∀ t, lsT t → t ≠ 25 ∧ t ≠ 4 := fun t ht => by rcases ht with w | w | w | w | w <;> omega
  have hx1 : lsT (gT g x) := by rw [T1 x (nz _ hx)]; exact hx
  have hk1 : ∀ i, i < n → lsT (gT g (f i)) := fun i hi => by rw [T1 _ (nz _ (hk i hi))]; exact hk i hi
  refine ⟨i1, ?_⟩
  rintro y8 rfl
  refine ⟨i1, ?_⟩
  rintro y10 rfl
  rw [i2]
  have fin : ∀ (b : Nat) (g2 : HS), gT g2 b = 4 → n < gN g2 b → 10 ≤ gN g2 b → gN g2 b ≤ 200 → (∀ i, i < n → gQ g2 b i = some (f i)) → gR g2 900 l = some b → gT g2 l = 25 → lsT (gT g2 x) → (∀ i, i < n → lsT (gT g2 (f i))) → ((gT h e = 4 ∧ b = e) ∨ gT h b = 0) → sm (fun a => a ≠ l ∧ (gT h e = 4 → a ≠ e) ∧ gT h a ≠ 0) h g2 → wj_AL_add3_38 Z post l (nI p) (some x) (nI n) (some b) g2 := by
    intro b g2 t1 t2 t3 t4 t5 t6 t7 t8 tk t9 t11
    have bl : b ≠ l := fun z => by rw [z] at t1; omega
    unfold wj_AL_add3_38
    rw [nI_1, pk_sub hp, jr_cl (by omega), jr_cl (by omega), jr_cl (by omega)]
    refine ⟨b, rfl, t1, b, rfl, t1, nI_pos (by omega), nI_pos (by omega), nI_pos (by omega), by omega, by omega, fun i hi y hy => ?_, ?_⟩
    · rw [t5 _ (by omega)] at hy
      obtain rfl := Option.some.inj hy
      exact tk _ (by omega)
    rintro h6 rfl
    refine ⟨b, rfl, t1, by rw [gN_wQ]; exact pk_in p _ (by omega), x, rfl, t8, ?_⟩
    rintro h7 rfl
    refine ⟨t7, ?_⟩
    rintro h8 rfl
    rw [nI_1]
    refine kk _ b t9 ⟨t7, by rw [gI_sI, if_pos ⟨rfl, rfl⟩], by omega, Or.inr ⟨t6, t1, by rw [gN_sI, gN_sQ, gN_wQ]; omega, t3, t4⟩, fun i hi => ?_⟩ t6 t1 ?_
    · rw [gQ_sI, gQ_sQ, gQ_wQ2, if_pos rfl]
      unfold ins
      by_cases z : i = p
      · subst z; rw [if_pos ⟨rfl, rfl⟩, if_neg (by omega), if_pos rfl]
      · rw [if_neg (fun w => z w.2)]
        by_cases z2 : i < p
        · rw [if_pos z2, pk_cpy_out (by omega)]; exact t5 i (by omega)
        · rw [if_neg z2, if_neg z, pk_cpy_in (by omega) (by omega), show p + (i - (p + 1)) = i - 1 from by omega]
          exact t5 _ (by omega)
    · refine sm_tr t11 fun a ha => ?_
      have ab : a ≠ b := by
        intro z
        subst z
        rcases t9 with w | w
        · exact ha.2.1 w.1 w.2
        · exact ha.2.2 w
      exact ce_tr (ce_wQ ab) (ce_tr (ce_sQ ab) (ce_sI ha.1))
  have keep : ∀ (h' : HS) (q : Nat), gT g q = 0 → sm (fun a => a ≠ l ∧ a ≠ q) g h' → (∀ a, lsT (gT g a) → lsT (gT h' a)) := by
    intro h' q hq s a ha
    have xq : a ≠ q := fun z => nz _ ha (by rw [z]; exact hq)
    have xl : a ≠ l := fun z => (nl _ ha).1 (by rw [z]; exact i1)
    rw [(s a ⟨xl, xq⟩).T]; exact ha
  rcases i4 with ⟨j1, j2⟩ | ⟨j1, j2, j3, j4, j5⟩
  · subst j2
    rw [j1]
    refine ⟨0, Or.inl ⟨rfl, rfl⟩, fun z => absurd rfl z, fun _ => ⟨i1, sp_grow L1 hn (Or.inl ⟨j1, rfl⟩) hk1 fun q m h' u1 u2 u3 u4 u5 u6 u7 u8 u9 u10 u11 => ?_⟩⟩
    refine fin q h' u5 (by omega) (by omega) (by omega) (fun i hi => absurd hi (Nat.not_lt_zero _)) u8 u10 (keep h' q u1 u11 x hx1) (fun i hi => absurd hi (Nat.not_lt_zero _)) (Or.inr (T0 q u1)) (fun a ha => ce_tr (c1 a ha.1) (u11 a ⟨ha.1, fun z => ?_⟩))
    exact ha.2.2 (by rw [z]; exact T0 q u1)
  · have gh : gT h e = 4 := by rw [← (c1 e (fun z => by rw [z] at j2; omega)).T]; exact j2
    rw [j1]
    refine ⟨gN g e, Or.inr ⟨e, rfl, j2, rfl⟩, fun z => ?_, fun z => ⟨i1, sp_grow L1 hn (Or.inr ⟨j1, j2, ?_, ?_⟩) hk1 fun q m h' u1 u2 u3 u4 u5 u6 u7 u8 u9 u10 u11 => ?_⟩⟩
    · exact fin e g j2 (Nat.lt_of_le_of_ne j3 fun w => z (by rw [← w])) j4 j5 i5 j1 i1 hx1 hk1 (Or.inl ⟨gh, rfl⟩) (fun a ha => c1 a ha.1)
    · have := (nI_eq (a := n) (b := gN g e) (by omega) (by omega)).mp z
      exact this.symm
    · have := (nI_eq (a := n) (b := gN g e) (by omega) (by omega)).mp z
      omega
    · refine fin q h' u5 (by omega) (by omega) (by omega) u7 u8 u10 (keep h' q u1 u11 x hx1) (fun i hi => keep h' q u1 u11 _ (hk1 i hi)) (Or.inr (T0 q u1)) (fun a ha => ce_tr (c1 a ha.1) (u11 a ⟨ha.1, fun z => ?_⟩))
      exact ha.2.2 (by rw [z]; exact T0 q u1)
theorem sp_AL_init {post : HS → Prop} (hl : gT h l = 25) (h0 : gI h 901 l = 0) (kk : ∀ h', (∀ e f, lL Z h' l e 0 f) → gR h' 900 l = some (Z 0) → sm (fun a => a ≠ l) h h' → post h') : wp_AL_init Z post h l := by
  refine ⟨hl, ?_⟩
  rintro h2 rfl
  refine ⟨hl, ?_⟩
  rintro h3 rfl
  refine kk _ (fun e f => ⟨hl, ?_, by omega, Or.inl ⟨?_, rfl⟩, fun i hi => absurd hi (Nat.not_lt_zero _)⟩) ?_ (fun a ha => ce_tr (ce_sI ha) (ce_sR ha))
  · rw [gI_sR, gI_sI, if_neg (by omega)]; exact h0
  · rw [gR_sR, if_pos ⟨rfl, rfl⟩]
  · rw [gR_sR, if_pos ⟨rfl, rfl⟩]
/-- an array of ints is filled -/
theorem sp_fill {post : HS → Prop} {a : Nat} {v : Int32} (ha : gT h a = 1) (hn : gN h a < 2 ^ 31) (kk : ∀ h', (∀ i, i < gN h a → gA h' a i = v) → gT h' a = 1 → gN h' a = gN h a → sm (fun b => b ≠ a) h h' → post h') : wp_ARR_fill Z post h (some a) v := by
  refine ⟨a, rfl, by omega, by omega, ?_⟩
  rintro y rfl
  refine lp_inv (fun q => ∃ i, q.1 = some a ∧ q.2.1 = v ∧ q.2.2.1 = nI i ∧ q.2.2.2.1 = nI (gN h a) ∧ i ≤ gN h a ∧ (∀ j, j < i → gA q.2.2.2.2 a j = v) ∧ gT q.2.2.2.2 a = 1 ∧ gN q.2.2.2.2 a = gN h a ∧ sm (fun b => b ≠ a) h q.2.2.2.2) (fun q => gN h a - q.2.2.1.toNatClampNeg) ?_ _ ⟨0, rfl, rfl, rfl, rfl, by omega, fun j hj => absurd hj (Nat.not_lt_zero _), ha, rfl, sm_rf⟩
  rintro ⟨x0, x1, x2, x3, h1⟩ K ⟨i, e0, e1, e2, e3, hi, C, t, n1, s⟩ hK
  dsimp only at e0 e1 e2 e3 C t n1 s
  subst e0 e1 e2 e3
  unfold wb_ARR_fill_5
  dsimp only
  refine pk_le (gN h a) i (fun z => kk h1 (fun j hj => C j (by omega)) t n1 s) (fun z => ⟨a, rfl, t, pk_in i _ (by omega), ?_⟩)
  rintro h2 rfl y rfl
  rw [jr_cl (by omega)]
  refine hK _ ⟨i + 1, rfl, rfl, nI_1 i, rfl, by omega, fun j hj => ?_, t, n1, sm_tr s fun b hb => ce_sA hb⟩ ?_
  · rw [gA_sA]
    by_cases z : j = i
    · subst z; simp
    · rw [if_neg (by omega)]; exact C j (by omega)
  · dsimp only
    rw [nI_1, jr_cl (by omega), jr_cl (by omega)]; omega
end LSQ
