section JSQ
variable {Z : Nat → Nat} {h : HS} {o u : Nat} {row len : Nat → Nat} {R : Nat} {ld : Nat → Nat}
theorem jr_node {r c : Nat} (hr : r < 17) : (nI r <<< ((11 : Int32) &&& 31)) + nI c = nI (2048 * r + c) := by
  rw [pk_shlN _ 11 (by decide) (by omega), nI_add, Nat.mul_comm]
theorem JS.frame {h' : HS} (J : JS h o u row len R) (e : ∀ a, (a = o ∨ a = u) → ce h h' a) (er : ∀ r, r < R → gT h' (row r) = gT h (row r) ∧ gN h' (row r) = gN h (row r)) : JS h' o u row len R := by
  obtain ⟨j1, j2, j3, j4, j5, j6, j7⟩ := J
  have eo := e o (Or.inl rfl)
  have eu := e u (Or.inr rfl)
  refine ⟨by rw [eo.T]; exact j1, by rw [eo.R]; exact j2, by rw [eu.T]; exact j3, by rw [eu.N]; exact j4, j5, fun r hr => ?_, j7⟩
  obtain ⟨q1, q2, q3, q4⟩ := j6 r hr
  exact ⟨by rw [eu.Q]; exact q1, by rw [(er r hr).1]; exact q2, by rw [(er r hr).2]; exact q3, q4⟩
theorem sp_scatterRow {post : HS → Prop} {up : Nat → Nat} (J : JS h o u row len R) (C : JC h row up (vl len R)) {r : Nat} (hr : r < R) (kk : ∀ h', JS h' o u row len R → JC h' row (fun n => if n / 2048 = r then n else up n) (vl len R) → sm (fun a => a ≠ row r) h h' → post h') : wp_Joins_scatterRow Z post h o (nI r) := by
  obtain ⟨j1, j2, j3, j4, j5, j6, j7⟩ := id J
  obtain ⟨q1, q2, q3, q4⟩ := j6 r hr
  refine ⟨j1, u, j2, j3, pk_in r _ (by rw [j4]; exact hr), ?_⟩
  rintro y rfl
  rw [jr_cl (by omega), q1]
  refine lp_inv (fun q => ∃ i, q.1 = nI r ∧ q.2.1 = some (row r) ∧ q.2.2.1 = nI i ∧ i ≤ len r ∧ JS q.2.2.2 o u row len R ∧ (∀ c, c < len r → c < i → gA q.2.2.2 (row r) c = nI (2048 * r + c)) ∧ sm (fun a => a ≠ row r) h q.2.2.2) (fun q => len r - q.2.2.1.toNatClampNeg) ?_ _ ⟨0, rfl, rfl, rfl, by omega, J, fun c _ z => absurd z (Nat.not_lt_zero _), sm_rf⟩
  rintro ⟨x1, x2, x3, h1⟩ K ⟨i, e1, e2, e3, hi, J1, C1, s1⟩ hK
  dsimp only at e1 e2 e3 J1 C1 s1
  subst e1 e2 e3
  obtain ⟨i1, i2, i3, i4, i5, i6, i7⟩ := id J1
  obtain ⟨p1, p2, p3, p4⟩ := i6 r hr
  unfold wb_Joins_scatterRow_9
  dsimp only
  refine ⟨row r, rfl, by omega, by omega, ?_⟩
  rw [p3]
  refine pk_le (len r) i (fun z => kk h1 J1 (fun n vn => ?_) s1) (fun z => ?_)
  · by_cases e : n / 2048 = r
    · simp only [e, if_true]
      have := C1 (n % 2048) (by have := vn.2; rw [e] at this; exact this) (by have := vn.2; rw [e] at this; omega)
      rw [this]; congr 1; omega
    · simp only [e, if_false]
      rw [(s1 _ (fun w => e (j7 _ _ vn.1 hr w))).A]
      exact C n vn
  · unfold wp_Joins_node
    rw [jr_node (by omega)]
    refine ⟨row r, rfl, p2, pk_in i _ (by rw [p3]; exact z), ?_⟩
    rintro h2 rfl y rfl
    rw [jr_cl (by omega)]
    refine hK _ ⟨i + 1, rfl, rfl, nI_1 i, by omega, J1.put, fun c h1 h2 => ?_, sm_tr s1 (fun a ha => ce_sA ha)⟩ ?_
    · rw [gA_sA]
      by_cases e : c = i
      · subst e; simp
      · rw [if_neg (by omega)]; exact C1 c h1 (by omega)
    · dsimp only
      rw [nI_1, jr_cl (by omega), jr_cl (by omega)]; omega
theorem sp_scatter {post : HS → Prop} (J : JF h o u row len R ld) (kk : ∀ h', JF h' o u row len R (fun n => n) → sm (fun a => ∀ r, r < R → a ≠ row r) h h' → post h') : wp_Joins_scatter Z post h o := by
  obtain ⟨J0, ⟨up, C, F⟩, -⟩ := J
  unfold wp_Joins_scatter
  refine lp_inv (fun q => ∃ i up, q.1 = nI i ∧ i ≤ R ∧ JS q.2 o u row len R ∧ JC q.2 row up (vl len R) ∧ (∀ n, vl len R n → n / 2048 < i → up n = n) ∧ sm (fun a => ∀ r, r < R → a ≠ row r) h q.2) (fun q => R - q.1.toNatClampNeg) ?_ _ ⟨0, up, rfl, by omega, J0, C, fun n _ z => absurd z (Nat.not_lt_zero _), sm_rf⟩
  rintro ⟨x1, h1⟩ K ⟨i, up1, e1, hi, J1, C1, U1, s1⟩ hK
  dsimp only at e1 J1 C1 U1 s1
  subst e1
  obtain ⟨i1, i2, i3, i4, i5, i6, i7⟩ := id J1
  unfold wb_Joins_scatter_2
  dsimp only
  refine ⟨i1, u, i2, by omega, by omega, ?_⟩
  rw [i4]
  refine pk_le R i (fun z => kk h1 ⟨J1, ⟨up1, C1, fun n vn => ?_⟩, fun _ _ => rfl⟩ s1) (fun z => ⟨i1, sp_scatterRow J1 C1 z fun h2 J2 C2 s2 => ?_⟩)
  · have e := U1 n vn (by have := vn.1; omega)
    rw [e]; exact ⟨Nat.le_refl _, vn, rfl, fun _ => rfl, Nat.le_refl _⟩
  · rintro y rfl
    refine hK _ ⟨i + 1, _, nI_1 i, by omega, J2, C2, fun n vn hn => ?_, sm_tr s1 (sm_of s2 fun a ha => ha i z)⟩ ?_
    · by_cases e : n / 2048 = i
      · simp [e]
      · simp only [e, if_false]; exact U1 n vn (by omega)
    · dsimp only
      rw [nI_1, jr_cl (by omega), jr_cl (by omega)]; omega
/-- a new row of L places, where there was an empty one -/
theorem sp_addRow {post : HS → Prop} (J : JF h o u row len R ld) {r L : Nat} (hr : r < R) (h0 : len r = 0) (hL : L ≤ 900) (kk : ∀ h' q, gT h q = 0 → JF h' o u (va_up row r q) (va_up len r L) R ld → sm (fun a => a ≠ u ∧ a ≠ q) h h' → post h') : wp_Joins_addRow Z post h o (nI r) (nI L) := by
  obtain ⟨J0, ⟨up, C, F⟩, O⟩ := id J
  obtain ⟨j1, j2, j3, j4, j5, j6, j7⟩ := id J0
  refine br_f (nI_pos (by omega)) ⟨j1, u, j2, by omega, by omega, ?_⟩
  rw [j4]
  refine pk_le R r (fun z => by omega) (fun _ => br_f (nI_pos (by omega)) ⟨j1, nI_pos (by omega), by rw [jr_cl (by omega)]; exact hL, fun q hq => ?_⟩)
  have qo : o ≠ q := fun z => by rw [z] at j1; omega
  have qu : u ≠ q := fun z => by rw [z] at j3; omega
  have qr : ∀ s, s < R → row s ≠ q := fun s hs z => by have := (j6 s hs).2.1; rw [z] at this; omega
  have ur : ∀ s, s < R → row s ≠ u := fun s hs z => by have := (j6 s hs).2.1; rw [z] at this; omega
  have ou : o ≠ u := fun z => by rw [z] at j1; omega
  rw [jr_cl (by omega), jr_cl (by omega)]
  rintro h1 rfl
  refine ⟨u, j2, by rw [gT_nH2, if_neg qu]; exact j3, by rw [gN_nH2, if_neg qu, j4]; exact pk_in r _ hr, by rw [gT_nH2, if_pos rfl], ?_⟩
  rintro h2 rfl
  have T2 : ∀ a, a ≠ q → gT (sQ (nH h q 1 L) u r (some q)) a = gT h a := fun a ha => by rw [gT_sQ, gT_nH2, if_neg ha]
  have N2 : ∀ a, a ≠ q → gN (sQ (nH h q 1 L) u r (some q)) a = gN h a := fun a ha => by rw [gN_sQ, gN_nH2, if_neg ha]
  have ce2 : ∀ a, a ≠ u → a ≠ q → ce h (sQ (nH h q 1 L) u r (some q)) a := fun a h1 h2 => ce_tr (ce_nH h2) (ce_sQ h1)
  have J2 : JS (sQ (nH h q 1 L) u r (some q)) o u (va_up row r q) (va_up len r L) R := by
    refine ⟨by rw [T2 o qo]; exact j1, by rw [gR_sQ, gR_nH2, if_neg qo]; exact j2, by rw [T2 u qu]; exact j3, by rw [N2 u qu]; exact j4, j5, fun s hs => ?_, fun s t hs ht e => ?_⟩
    · by_cases e : s = r
      · subst e
        rw [va_up_self, va_up_self]
        exact ⟨by rw [gQ_sQ, if_pos ⟨rfl, rfl⟩], by rw [gT_sQ, gT_nH2, if_pos rfl], by rw [gN_sQ, gN_nH2, if_pos rfl], by omega⟩
      · rw [va_up_ne _ _ e, va_up_ne _ _ e]
        obtain ⟨p1, p2, p3, p4⟩ := j6 s hs
        exact ⟨by rw [gQ_sQ, if_neg (fun z => e z.2), gQ_nH2, if_neg qu]; exact p1, by rw [T2 _ (qr s hs)]; exact p2, by rw [N2 _ (qr s hs)]; exact p3, p4⟩
    · by_cases e1 : s = r <;> by_cases e2 : t = r
      · omega
      · subst e1; rw [va_up_self, va_up_ne _ _ e2] at e; exact absurd e.symm (qr t ht)
      · subst e2; rw [va_up_self, va_up_ne _ _ e1] at e; exact absurd e (qr s hs)
      · rw [va_up_ne _ _ e1, va_up_ne _ _ e2] at e; exact j7 s t hs ht e
  have C2 : JC (sQ (nH h q 1 L) u r (some q)) (va_up row r q) (fun n => if n / 2048 = r then 0 else up n) (vl (va_up len r L) R) := by
    intro n vn
    by_cases e : n / 2048 = r
    · simp only [e, if_true]; rw [va_up_self, gA_sQ, gA_nH2, if_pos rfl]; rfl
    · simp only [e, if_false]
      rw [va_up_ne _ _ e, gA_sQ, gA_nH2, if_neg (qr _ vn.1)]
      refine C n ⟨vn.1, ?_⟩
      have := vn.2; rw [va_up_ne _ _ e] at this; exact this
  refine ⟨J2.1, sp_scatterRow J2 C2 hr fun h3 J3 C3 s3 => ?_⟩
  rw [va_up_self] at s3
  refine kk h3 q hq ⟨J3, ⟨_, C3, fun n vn => ?_⟩, fun n vn => ?_⟩ (sm_tr (fun a ha => ce2 a ha.1 ha.2) (sm_of s3 fun a ha => ha.2))
  · have nv : n / 2048 = r → ¬ vl len R n := fun e z => by have := z.2; rw [e, h0] at this; omega
    by_cases e : n / 2048 = r
    · simp only [e, if_true]
      have := O n (nv e)
      exact ⟨Nat.le_refl _, vn, trivial, fun _ => this, by omega⟩
    · have w : vl len R n := ⟨vn.1, by have := vn.2; rw [va_up_ne _ _ e] at this; exact this⟩
      obtain ⟨f1, f2, f3, f4, f5⟩ := F n w
      have e2 : up n / 2048 ≠ r := fun z => by have := f2.2; rw [z, h0] at this; omega
      simp only [e, if_false]
      exact ⟨f1, ⟨f2.1, by rw [va_up_ne _ _ e2]; exact f2.2⟩, f3, f4, f5⟩
  · refine O n fun z => vn ⟨z.1, ?_⟩
    by_cases e : n / 2048 = r
    · have := z.2; rw [e, h0] at this; omega
    · rw [va_up_ne _ _ e]; exact z.2
theorem mN_get {q N : Nat} : ∀ k, k ≤ N → gT (mN h q N k) q = 5 ∧ gN (mN h q N k) q = N ∧ (∀ j, j < k → gQ (mN h q N k) q j = some (q + 1 + j) ∧ gT (mN h q N k) (q + 1 + j) = 1 ∧ gN (mN h q N k) (q + 1 + j) = 0) ∧ ∀ a, (a < q ∨ q + k < a) → ce h (mN h q N k) a := by
  intro k
  induction k with
  | zero =>
    intro _
    refine ⟨by simp [mN, gT_nH2], by simp [mN, gN_nH2], fun j hj => absurd hj (Nat.not_lt_zero _), fun a ha => ce_nH (by omega)⟩
  | succ k ih =>
    intro hk
    obtain ⟨i1, i2, i3, i4⟩ := ih (by omega)
    have n1 : q ≠ q + 1 + k := by omega
    simp only [mN]
    refine ⟨by rw [gT_sQ, gT_nH2, if_neg n1]; exact i1, by rw [gN_sQ, gN_nH2, if_neg n1]; exact i2, fun j hj => ?_, fun a ha => ce_tr (i4 a (by omega)) (ce_tr (ce_nH (by omega)) (ce_sQ (by omega)))⟩
    by_cases e : j = k
    · subst e
      exact ⟨by rw [gQ_sQ, if_pos ⟨rfl, rfl⟩], by rw [gT_sQ, gT_nH2, if_pos rfl], by rw [gN_sQ, gN_nH2, if_pos rfl]⟩
    · obtain ⟨p1, p2, p3⟩ := i3 j (by omega)
      have n2 : q + 1 + j ≠ q + 1 + k := by omega
      exact ⟨by rw [gQ_sQ, if_neg (fun z => e z.2), gQ_nH2, if_neg n1]; exact p1, by rw [gT_sQ, gT_nH2, if_neg n2]; exact p2, by rw [gN_sQ, gN_nH2, if_neg n2]; exact p3⟩
/-- a new object of R rows: the first of L places -/
theorem sp_Joins_init {post : HS → Prop} {L : Nat} (ho : gT h o = 18) (hR0 : 0 < R) (hR : R ≤ 17) (hL : L ≤ 1060) (kk : ∀ h' u row, (∀ a, (a = u ∨ ∃ r, r < R ∧ a = row r) → gT h a = 0) → JF h' o u row (fun r => if r = 0 then L else 0) R (fun n => n) → sm (fun a => a ≠ o ∧ gT h a ≠ 0) h h' → post h') : wp_Joins_init Z post h o (nI R) (nI L) := by
  unfold wp_Joins_init
  rw [jr_cl (by omega), jr_cl (by omega)]
  refine ⟨nI_pos (by omega), hR, fun q hq => ?_⟩
  rintro h1 rfl
  obtain ⟨m1, m2, m3, m4⟩ := mN_get (h := h) (q := q) (N := R) R (Nat.le_refl _)
  have oq : o < q ∨ q + R < o := by
    rcases Nat.lt_or_ge o q with z | z
    · exact Or.inl z
    · rcases Nat.lt_or_ge (q + R) o with w | w
      · exact Or.inr w
      · have := hq (o - q) (by omega)
        rw [show q + (o - q) = o from by omega] at this
        omega
  have oe := m4 o oq
  refine ⟨by rw [oe.T]; exact ho, ?_⟩
  rintro h2 rfl
  refine ⟨by rw [gT_sR, oe.T]; exact ho, nI_pos (by omega), hL, fun q7 hq7 => ?_⟩
  rw [gT_sR] at hq7
  rintro h3 rfl
  have q7q : q7 ≠ q := fun z => by rw [z] at hq7; omega
  have q7o : q7 ≠ o := fun z => by rw [z, oe.T] at hq7; omega
  have q7r : ∀ j, j < R → q7 ≠ q + 1 + j := fun j hj z => by rw [z, (m3 j hj).2.1] at hq7; omega
  have q7h : gT h q7 = 0 := by
    rcases Nat.lt_or_ge q7 q with z | z
    · rw [← (m4 q7 (Or.inl z)).T]; exact hq7
    · rcases Nat.lt_or_ge (q + R) q7 with w | w
      · rw [← (m4 q7 (Or.inr w)).T]; exact hq7
      · have := hq (q7 - q) (by omega)
        rw [show q + (q7 - q) = q7 from by omega] at this
        exact this
  refine ⟨q, by rw [gR_sR, if_pos ⟨rfl, rfl⟩], by rw [gT_nH2, if_neg (Ne.symm q7q), gT_sR]; exact m1, ?_, by rw [gT_nH2, if_pos rfl], ?_⟩
  · show vp_in (nI 0) _
    rw [gN_nH2, if_neg (Ne.symm q7q), gN_sR, m2]; exact pk_in 0 _ hR0
  rintro h4 rfl
  rw [show (0 : Int32).toNatClampNeg = 0 from rfl]
  generalize hG : sQ (nH (sR (mN h q R R) 200 o (some q)) q7 1 L) q 0 (some q7) = g
  have gTe : ∀ a, a ≠ q7 → gT g a = gT (mN h q R R) a := fun a ha => by rw [← hG, gT_sQ, gT_nH2, if_neg ha, gT_sR]
  have gNe : ∀ a, a ≠ q7 → gN g a = gN (mN h q R R) a := fun a ha => by rw [← hG, gN_sQ, gN_nH2, if_neg ha, gN_sR]
  have Js : JS g o q (fun r => if r = 0 then q7 else q + 1 + r) (fun r => if r = 0 then L else 0) R := by
    refine ⟨by rw [gTe o (Ne.symm q7o), oe.T]; exact ho, by rw [← hG, gR_sQ, gR_nH2, if_neg (Ne.symm q7o), gR_sR, if_pos ⟨rfl, rfl⟩], by rw [gTe q (Ne.symm q7q)]; exact m1, by rw [gNe q (Ne.symm q7q)]; exact m2, hR, fun r hr => ?_, fun r s hr hs e => ?_⟩
    · by_cases e : r = 0
      · subst e
        simp only [if_true]
        exact ⟨by rw [← hG, gQ_sQ, if_pos ⟨rfl, rfl⟩], by rw [← hG, gT_sQ, gT_nH2, if_pos rfl], by rw [← hG, gN_sQ, gN_nH2, if_pos rfl], by omega⟩
      · simp only [e, if_false]
        obtain ⟨p1, p2, p3⟩ := m3 r hr
        exact ⟨by rw [← hG, gQ_sQ, if_neg (fun z => e z.2), gQ_nH2, if_neg (Ne.symm q7q), gQ_sR]; exact p1, by rw [gTe _ (Ne.symm (q7r r hr))]; exact p2, by rw [gNe _ (Ne.symm (q7r r hr))]; exact p3, by omega⟩
    · by_cases e1 : r = 0 <;> by_cases e2 : s = 0 <;> simp only [e1, e2, if_true, if_false] at e
      · omega
      · exact absurd e (q7r s hs)
      · exact absurd e.symm (q7r r hr)
      · omega
  have Cs : JC g (fun r => if r = 0 then q7 else q + 1 + r) (fun _ => 0) (vl (fun r => if r = 0 then L else 0) R) := by
    intro n vn
    by_cases e : n / 2048 = 0
    · simp only [e, if_true]; rw [← hG, gA_sQ, gA_nH2, if_pos rfl]; rfl
    · have := vn.2; simp only [e, if_false] at this; omega
  refine ⟨Js.1, sp_scatterRow (r := 0) Js Cs hR0 fun h5 J5 C5 s5 => ?_⟩
  refine kk h5 q _ (fun a ha => ?_) ⟨J5, ⟨_, C5, fun n vn => ?_⟩, fun _ _ => rfl⟩ ?_
  · rcases ha with rfl | ⟨r, hr, rfl⟩
    · exact hq 0 (by omega)
    · by_cases e : r = 0
      · simp only [e, if_true]; exact q7h
      · simp only [e, if_false]
        have := hq (1 + r) (by omega)
        rw [← Nat.add_assoc] at this; exact this
  · have e : n / 2048 = 0 := by
      refine Classical.byContradiction fun e => ?_
      have := vn.2; simp only [e, if_false] at this; omega
    simp only [e, if_true]
    exact ⟨Nat.le_refl _, vn, trivial, fun _ => trivial, Nat.le_refl _⟩
  · simp only [if_true] at s5
    refine sm_tr ?_ (sm_of s5 fun a ha => fun z => ?_)
    · intro a ha
      have n1 : a ≠ q7 := fun z => ha.2 (by rw [z]; exact q7h)
      have n2 : a ≠ q := fun z => ha.2 (by rw [z]; exact hq 0 (by omega))
      have n3 : a < q ∨ q + R < a := by
        rcases Nat.lt_or_ge a q with z | z
        · exact Or.inl z
        · rcases Nat.lt_or_ge (q + R) a with w | w
          · exact Or.inr w
          · have := hq (a - q) (by omega)
            rw [show q + (a - q) = a from by omega] at this
            exact absurd this ha.2
      rw [← hG]
      exact ce_tr (m4 a n3) (ce_tr (ce_sR ha.1) (ce_tr (ce_nH n1) (ce_sQ n2)))
    · exact ha.2 (by rw [z]; exact q7h)
end JSQ
