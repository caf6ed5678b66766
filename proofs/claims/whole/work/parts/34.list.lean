/-! LISTS: l the list's object, e its array, of n things, the i-th at the address f i -/
def lL (Z : Nat → Nat) (h : HS) (l e n : Nat) (f : Nat → Nat) : Prop :=
  gT h l = 25 ∧ gI h 901 l = nI n ∧ n ≤ 100 ∧ ((gR h 900 l = some (Z 0) ∧ n = 0) ∨ (gR h 900 l = some e ∧ gT h e = 4 ∧ n ≤ gN h e ∧ 10 ≤ gN h e ∧ gN h e ≤ 200)) ∧ ∀ i, i < n → gQ h e i = some (f i)
theorem lL.frame {Z : Nat → Nat} {h h' : HS} {l e n : Nat} {f : Nat → Nat} (L : lL Z h l e n f) (c1 : ce h h' l) (c2 : gT h e = 4 → ce h h' e) : lL Z h' l e n f := by
  obtain ⟨h1, h2, h3, h4, h5⟩ := L
  rcases h4 with ⟨z1, z2⟩ | ⟨g1, g2, g3, g4⟩
  · exact ⟨by rw [c1.T]; exact h1, by rw [c1.I]; exact h2, h3, Or.inl ⟨by rw [c1.R]; exact z1, z2⟩, fun i hi => by omega⟩
  · have c := c2 g2
    exact ⟨by rw [c1.T]; exact h1, by rw [c1.I]; exact h2, h3, Or.inr ⟨by rw [c1.R]; exact g1, by rw [c.T]; exact g2, by rw [c.N]; exact g3, by rw [c.N]; exact g4⟩, fun i hi => by rw [c.Q]; exact h5 i hi⟩
section LSP
variable {Z : Nat → Nat} {h : HS} {l e n : Nat} {f : Nat → Nat}
theorem sp_size {post : Int32 → HS → Prop} (L : lL Z h l e n f) (kk : post (nI n) h) : wp_AL_size Z post h l := by
  refine ⟨L.1, ?_⟩
  rw [L.2.1]; exact kk
theorem sp_get {post : Option Nat → HS → Prop} (L : lL Z h l e n f) {i : Nat} (hi : i < n) (kk : post (some (f i)) h) : wp_AL_get Z post h l (nI i) := by
  obtain ⟨h1, h2, h3, h4, h5⟩ := L
  refine ⟨h1, ?_⟩
  rw [h2]
  refine br_f (nI_pos (by omega)) (br_t (nI_lt hi (by omega)) ⟨h1, h1, ?_⟩)
  rcases h4 with h4 | ⟨g1, g2, g3, g4⟩
  · omega
  · refine ⟨e, g1, g2, pk_in i _ (by omega), ?_⟩
    rw [jr_cl (by omega), h5 i hi]; exact kk
/-- the array is full, or there is none: a larger one -/
theorem sp_grow {post : Option Nat → HS → Prop} (L : lL Z h l e n f) (hn : n < 100) (hf : (gR h 900 l = some (Z 0) ∧ n = 0) ∨ (gR h 900 l = some e ∧ gT h e = 4 ∧ gN h e = n ∧ 10 ≤ n)) (hk : ∀ i, i < n → lsT (gT h (f i)))
    (kk : ∀ q m h', gT h q = 0 → n < m → 10 ≤ m → m ≤ 200 → gT h' q = 4 → gN h' q = m → (∀ i, i < n → gQ h' q i = some (f i)) → gR h' 900 l = some q → gI h' 901 l = nI n → gT h' l = 25 → sm (fun a => a ≠ l ∧ a ≠ q) h h' → post (some q) h') : wp_AL_grow2 Z post h l := by
  obtain ⟨h1, h2, h3, h4, h5⟩ := id L
  refine ⟨h1, h1, ?_⟩
  rw [h2]
  have e1 : nI n + 1 = nI (n + 1) := nI_1 n
  rw [show (1 : Int32) = nI 1 from rfl, nI_add]
  have lq : ∀ q, gT h q = 0 → l ≠ q := fun q hq z => by rw [z] at h1; omega
  rcases hf with ⟨g1, g2⟩ | ⟨g1, g2, g3, n0⟩
  · subst g2
    refine ⟨h1, 0, Or.inl ⟨g1, rfl⟩, ?_⟩
    rintro y rfl
    refine br_f (by decide) ⟨h1, br_t g1 ?_⟩
    rw [show (if (10 : Int32) < nI (0 + 1) then nI (0 + 1) else 10) = nI 10 from by decide]
    refine ⟨by decide, by decide, fun q hq => ?_⟩
    rintro h6 rfl
    have := lq q hq
    refine ⟨by rw [gT_nH2, if_neg this]; exact h1, ?_⟩
    rintro h7 rfl
    rw [show (nI 10).toNatClampNeg = 10 from by decide]
    refine kk q 10 _ hq (by omega) (by omega) (by omega) (by rw [gT_sR, gT_nH2, if_pos rfl]) (by rw [gN_sR, gN_nH2, if_pos rfl]) (fun i hi => absurd hi (Nat.not_lt_zero _)) (by rw [gR_sR, if_pos ⟨rfl, rfl⟩]) (by rw [gI_sR, gI_nH2, if_neg this]; exact h2) (by rw [gT_sR, gT_nH2, if_neg this]; exact h1) (fun a ha => ce_tr (ce_nH ha.2) (ce_sR ha.1))
  · refine ⟨h1, n, Or.inr ⟨e, g1, g2, g3.symm⟩, ?_⟩
    rintro y rfl
    refine br_t (by show nI 0 < nI n; exact nI_lt (by omega) (by omega)) ?_
    unfold wj_AL_grow_20
    rw [pk_sub (by omega), show n + 1 - n = 1 from by omega, pk_shrN (n := n) (by omega) _ 1 (by decide)]
    rintro y rfl
    have e2 : nI n + (if nI 1 < nI (n / 2 ^ 1) then nI (n / 2 ^ 1) else nI 1) = nI (n + n / 2) := by
      rw [if_pos ((nI_ltI (by omega) (by omega)).mpr (by omega)), nI_add]
    rw [e2]
    refine br_f (nI_nle (by omega) (by omega)) (br_f (fun z => ?_) ⟨h1, e, g1, g2, fun z => absurd rfl z, ?_⟩)
    · have := (nI_ltI (a := 2147483639) (b := n + n / 2) (by omega) (by omega)).mp z; omega
    intro _
    rw [jr_cl (by omega)]
    refine ⟨nI_pos (by omega), by omega, fun q hq => ?_⟩
    rintro h6 rfl
    have lq := lq q hq
    have eq : e ≠ q := fun z => by rw [z] at g2; omega
    have el : e ≠ l := fun z => by rw [z] at g2; omega
    refine ⟨n, Or.inr ⟨e, g1, by rw [gT_nH2, if_neg eq]; exact g2, by rw [gN_nH2, if_neg eq]; exact g3.symm⟩, e, g1, by rw [gT_nH2, if_neg eq]; exact g2, by rw [gT_nH2, if_pos rfl], ?_⟩
    rw [if_neg (fun z => by have := (nI_ltI (a := n + n / 2) (b := n) (by omega) (by omega)).mp z; omega), jr_cl (by omega), show (0 : Int32).toNatClampNeg = 0 from rfl]
    refine ⟨by decide, by decide, nI_pos (by omega), by rw [gN_nH2, if_neg eq]; omega, by rw [gN_nH2, if_pos rfl]; omega, fun i hi y hy => ?_, ?_⟩
    · rw [gQ_nH2, if_neg eq, Nat.zero_add, h5 i hi] at hy
      obtain rfl := Option.some.inj hy
      have : f i ≠ q := fun z => by have := hk i hi; rw [z, hq] at this; rcases this with w | w | w | w | w <;> omega
      rw [gT_nH2, if_neg this]; exact hk i hi
    · rintro h7 rfl
      refine ⟨by rw [gT_wQ, gT_nH2, if_neg lq]; exact h1, ?_⟩
      rintro h8 rfl
      refine kk q (n + n / 2) _ hq (by omega) (by omega) (by omega) (by rw [gT_sR, gT_wQ, gT_nH2, if_pos rfl]) (by rw [gN_sR, gN_wQ, gN_nH2, if_pos rfl]) (fun i hi => ?_) (by rw [gR_sR, if_pos ⟨rfl, rfl⟩]) (by rw [gI_sR, gI_wQ, gI_nH2, if_neg lq]; exact h2) (by rw [gT_sR, gT_wQ, gT_nH2, if_neg lq]; exact h1) (fun a ha => ce_tr (ce_nH ha.2) (ce_tr (ce_wQ ha.2) (ce_sR ha.1)))
      rw [gQ_sR, gQ_wQ2, if_pos rfl, pk_cpy_in (by omega) (by omega), gQ_nH2, if_neg eq, Nat.zero_add, Nat.sub_zero]
      exact h5 i hi
theorem sp_add {post : Int32 → HS → Prop} (L : lL Z h l e n f) (hn : n < 100) (hk : ∀ i, i < n → lsT (gT h (f i))) {x : Nat} (hx : lsT (gT h x))
    (kk : ∀ h' e', ((gT h e = 4 ∧ e' = e) ∨ gT h e' = 0) → lL Z h' l e' (n + 1) (va_up f n x) → gR h' 900 l = some e' → gT h' e' = 4 → sm (fun a => a ≠ l ∧ (gT h e = 4 → a ≠ e) ∧ gT h a ≠ 0) h h' → post 1 h') : wp_AL_add2 Z post h l (some x) := by
  obtain ⟨h1, h2, h3, h4, h5⟩ := id L
  refine ⟨h1, h1, ?_⟩
  rintro ha rfl
  refine ⟨h1, h1, h1, ?_⟩
  have L1 : lL Z (sI h 902 l (gI h 902 l + 1)) l e n f := by
    refine ⟨h1, by rw [gI_sI, if_neg (by omega)]; exact h2, h3, h4, h5⟩
  have c1 : ∀ a, a ≠ l → ce h (sI h 902 l (gI h 902 l + 1)) a := fun a ha => ce_sI ha
  have gR9 : gR (sI h 902 l (gI h 902 l + 1)) 900 l = gR h 900 l := rfl
  generalize sI h 902 l (gI h 902 l + 1) = g at L1 c1 gR9
  have T1 : ∀ a, gT h a ≠ 0 → gT g a = gT h a := fun a ha => by
    by_cases e : a = l
    · subst e; rw [L1.1, h1]
    · exact (c1 a e).T
  have T0 : ∀ a, gT g a = 0 → gT h a = 0 := fun a ha => by
    refine Classical.byContradiction fun z => ?_
    rw [T1 a z] at ha; exact z ha
  obtain ⟨i1, i2, i3, i4, i5⟩ := id L1
  rw [i2]
  have nz : ∀ t, lsT t → t ≠ 0 := fun t ht => by rcases ht with w | w | w | w | w <;> omega
  have nl : ∀ t, lsT t → t ≠ 25 ∧ t ≠ 4 := fun t ht => by rcases ht with w | w | w | w | w <;> omega
  have hx1 : lsT (gT g x) := by rw [T1 x (nz _ hx)]; exact hx
  have hk1 : ∀ i, i < n → lsT (gT g (f i)) := fun i hi => by rw [T1 _ (nz _ (hk i hi))]; exact hk i hi
  have eR : gR h 900 l = some e → gT h e = 4 → l ≠ e := fun _ z w => by rw [← w] at z; omega
  -- the end: x is put
  have fin : ∀ (b : Nat) (g2 : HS), gT g2 b = 4 → n < gN g2 b → 10 ≤ gN g2 b → gN g2 b ≤ 200 → (∀ i, i < n → gQ g2 b i = some (f i)) → gR g2 900 l = some b → gT g2 l = 25 → lsT (gT g2 x) → ((gT h e = 4 ∧ b = e) ∨ gT h b = 0) → sm (fun a => a ≠ l ∧ (gT h e = 4 → a ≠ e) ∧ gT h a ≠ 0) h g2 → wj_AL_add_11 Z (fun h7 => post 1 h7) l (some x) (some b) (nI n) g2 := by
    intro b g2 t1 t2 t3 t4 t5 t6 t7 t8 t9 t11
    have bl : b ≠ l := fun z => by rw [z] at t1; omega
    refine ⟨b, rfl, t1, pk_in n _ t2, x, rfl, t8, ?_⟩
    rintro h6 rfl
    refine ⟨t7, ?_⟩
    rintro h7 rfl
    rw [jr_cl (by omega), nI_1]
    refine kk _ b t9 ⟨t7, by rw [gI_sI, if_pos ⟨rfl, rfl⟩], by omega, Or.inr ⟨t6, t1, by rw [gN_sI, gN_sQ]; omega, t3, t4⟩, fun i hi => ?_⟩ t6 t1 ?_
    · rw [gQ_sI, gQ_sQ]
      by_cases z : i = n
      · subst z; rw [if_pos ⟨rfl, rfl⟩, va_up_self]
      · rw [if_neg (fun w => z w.2), va_up_ne _ _ z]; exact t5 i (by omega)
    · refine sm_tr t11 fun a ha => ce_tr (ce_sQ ?_) (ce_sI ha.1)
      intro z
      subst z
      rcases t9 with w | w
      · exact ha.2.1 w.1 w.2
      · exact ha.2.2 w
  rcases i4 with ⟨j1, j2⟩ | ⟨j1, j2, j3, j4, j5⟩
  · subst j2
    rw [j1]
    refine ⟨0, Or.inl ⟨rfl, rfl⟩, fun z => absurd rfl z, fun _ => ⟨i1, sp_grow L1 hn (Or.inl ⟨j1, rfl⟩) hk1 fun q m h' u1 u2 u3 u4 u5 u6 u7 u8 u9 u10 u11 => ?_⟩⟩
    have xq : x ≠ q := fun z => nz _ hx1 (by rw [z]; exact u1)
    have xl : x ≠ l := fun z => (nl _ hx1).1 (by rw [z]; exact i1)
    refine fin q h' u5 (by omega) (by omega) (by omega) (fun i hi => absurd hi (Nat.not_lt_zero _)) u8 u10 (by rw [(u11 x ⟨xl, xq⟩).T]; exact hx1) (Or.inr (T0 q u1)) (fun a ha => ce_tr (c1 a ha.1) (u11 a ⟨ha.1, fun z => ?_⟩))
    exact ha.2.2 (by rw [z]; exact T0 q u1)
  · have gh : gT h e = 4 := by rw [← (c1 e (fun z => by rw [z] at j2; omega)).T]; exact j2
    have el : e ≠ l := fun z => by rw [z] at j2; omega
    rw [j1]
    refine ⟨gN g e, Or.inr ⟨e, rfl, j2, rfl⟩, fun z => ?_, fun z => ⟨i1, sp_grow L1 hn (Or.inr ⟨j1, j2, ?_, ?_⟩) hk1 fun q m h' u1 u2 u3 u4 u5 u6 u7 u8 u9 u10 u11 => ?_⟩⟩
    · exact fin e g j2 (Nat.lt_of_le_of_ne j3 fun w => z (by rw [← w])) j4 j5 i5 j1 i1 hx1 (Or.inl ⟨gh, rfl⟩) (fun a ha => c1 a ha.1)
    · have := (nI_eq (a := n) (b := gN g e) (by omega) (by omega)).mp z
      exact this.symm
    · have := (nI_eq (a := n) (b := gN g e) (by omega) (by omega)).mp z
      omega
    · have xq : x ≠ q := fun z => nz _ hx1 (by rw [z]; exact u1)
      have xl : x ≠ l := fun z => (nl _ hx1).1 (by rw [z]; exact i1)
      refine fin q h' u5 (by omega) (by omega) (by omega) u7 u8 u10 (by rw [(u11 x ⟨xl, xq⟩).T]; exact hx1) (Or.inr (T0 q u1)) (fun a ha => ce_tr (c1 a ha.1) (u11 a ⟨ha.1, fun z => ?_⟩))
      exact ha.2.2 (by rw [z]; exact T0 q u1)
end LSP
