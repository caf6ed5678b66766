/-! FORESTS. V: the nodes; up: the one above; ld: the root -/
def FO (up ld : Nat → Nat) (V : Nat → Prop) : Prop := ∀ n, V n → up n ≤ n ∧ V (up n) ∧ ld (up n) = ld n ∧ (up n = n → ld n = n) ∧ ld n ≤ n
theorem FO.root {up ld : Nat → Nat} {V : Nat → Prop} (h : FO up ld V) : ∀ n, V n → V (ld n) ∧ ld (ld n) = ld n := by
  intro n
  induction n using Nat.strongRecOn with
  | _ n ih =>
    intro v
    obtain ⟨h1, h2, h3, h4, -⟩ := h n v
    by_cases e : up n = n
    · rw [h4 e]; exact ⟨v, h4 e⟩
    · have := ih (up n) (by omega) h2
      rw [h3] at this
      exact this
theorem FO.put {up ld : Nat → Nat} {V : Nat → Prop} (h : FO up ld V) {k v : Nat} (hv : V v) (h1 : v ≤ k) (h2 : ld v = ld k) (h3 : v = k → ld k = k) : FO (va_up up k v) ld V := by
  intro n vn
  obtain ⟨g1, g2, g3, g4, g5⟩ := h n vn
  by_cases e : n = k
  · subst e; rw [va_up_self]; exact ⟨h1, hv, h2, h3, g5⟩
  · rw [va_up_ne _ _ e]; exact ⟨g1, g2, g3, g4, g5⟩
theorem FO.join {up ld : Nat → Nat} {V : Nat → Prop} (h : FO up ld V) {a b : Nat} (va : V a) (vb : V b) : FO (va_up up (max (ld a) (ld b)) (min (ld a) (ld b))) (jn ld a b) V := by
  obtain ⟨ra1, ra2⟩ := h.root a va
  obtain ⟨rb1, rb2⟩ := h.root b vb
  have jlo : jn ld a b (min (ld a) (ld b)) = min (ld a) (ld b) := by
    unfold jn
    have : ld (min (ld a) (ld b)) = ld a ∨ ld (min (ld a) (ld b)) = ld b := by
      rcases Nat.le_total (ld a) (ld b) with z | z
      · rw [Nat.min_eq_left z, ra2]; exact Or.inl rfl
      · rw [Nat.min_eq_right z, rb2]; exact Or.inr rfl
    rw [if_pos this]
  have jhi : jn ld a b (max (ld a) (ld b)) = min (ld a) (ld b) := by
    unfold jn
    have : ld (max (ld a) (ld b)) = ld a ∨ ld (max (ld a) (ld b)) = ld b := by
      rcases Nat.le_total (ld a) (ld b) with z | z
      · rw [Nat.max_eq_right z, rb2]; exact Or.inr rfl
      · rw [Nat.max_eq_left z, ra2]; exact Or.inl rfl
    rw [if_pos this]
  have jle : ∀ n, V n → jn ld a b n ≤ n := by
    intro n vn
    have := (h n vn).2.2.2.2
    unfold jn
    split
    · rename_i e; rcases e with e | e <;> omega
    · exact this
  intro n vn
  obtain ⟨g1, g2, g3, g4, g5⟩ := h n vn
  by_cases e : n = max (ld a) (ld b)
  · subst e
    rw [va_up_self, jhi]
    refine ⟨by omega, ?_, jlo, fun z => z, by omega⟩
    rcases Nat.le_total (ld a) (ld b) with z | z
    · rw [Nat.min_eq_left z]; exact ra1
    · rw [Nat.min_eq_right z]; exact rb1
  · rw [va_up_ne _ _ e]
    refine ⟨g1, g2, ?_, fun z => ?_, jle n vn⟩
    · unfold jn; rw [g3]
    · have hn := g4 z
      unfold jn
      split
      · rename_i w
        rw [hn] at w
        rcases w with w | w <;> omega
      · exact hn
theorem jn_out {ld : Nat → Nat} {up : Nat → Nat} {V : Nat → Prop} (h : FO up ld V) (ho : ∀ n, ¬ V n → ld n = n) {a b : Nat} (va : V a) (vb : V b) : ∀ n, ¬ V n → jn ld a b n = n := by
  intro n vn
  have e := ho n vn
  unfold jn
  rw [e, if_neg]
  intro z
  rcases z with z | z
  · exact vn (by rw [z]; exact (h.root a va).1)
  · exact vn (by rw [z]; exact (h.root b vb).1)
/-! THE CLASS's JOINS: o the object, u its rows' array, row r at its address, of len r places -/
def vl (len : Nat → Nat) (R n : Nat) : Prop := n / 2048 < R ∧ n % 2048 < len (n / 2048)
def JS (h : HS) (o u : Nat) (row len : Nat → Nat) (R : Nat) : Prop := gT h o = 18 ∧ gR h 200 o = some u ∧ gT h u = 5 ∧ gN h u = R ∧ R ≤ 17 ∧ (∀ r, r < R → gQ h u r = some (row r) ∧ gT h (row r) = 1 ∧ gN h (row r) = len r ∧ len r ≤ 2048) ∧ ∀ r s, r < R → s < R → row r = row s → r = s
def JC (h : HS) (row up : Nat → Nat) (V : Nat → Prop) : Prop := ∀ n, V n → gA h (row (n / 2048)) (n % 2048) = nI (up n)
def JF (h : HS) (o u : Nat) (row len : Nat → Nat) (R : Nat) (ld : Nat → Nat) : Prop := JS h o u row len R ∧ (∃ up, JC h row up (vl len R) ∧ FO up ld (vl len R)) ∧ ∀ n, ¬ vl len R n → ld n = n
theorem vl_lt {len : Nat → Nat} {R n : Nat} (h : vl len R n) (hR : R ≤ 17) : n < 34816 := by
  have := h.1
  omega
theorem jr_shr {k : Nat} (h : k < 2 ^ 31) : nI k >>> ((11 : Int32) &&& 31) = nI (k / 2048) := pk_shrN h _ 11 (by decide)
theorem jr_and {k : Nat} (h : k < 2 ^ 31) : nI k &&& (2047 : Int32) = nI (k % 2048) := pk_andN (by omega) 11 (by decide)
theorem jr_cl {k : Nat} (h : k < 2 ^ 31) : (nI k).toNatClampNeg = k := nI_clamp h
section JSP
variable {Z : Nat → Nat} {h : HS} {o u : Nat} {row len : Nat → Nat} {R : Nat} {ld : Nat → Nat}
theorem sp_has {post : Int32 → HS → Prop} (J : JS h o u row len R) {k : Nat} (hk : k < 2 ^ 31) (h1 : vl len R k → post 1 h) (h0 : ¬ vl len R k → post 0 h) : wp_Joins_has Z post h o (nI k) := by
  obtain ⟨j1, j2, j3, j4, j5, j6, j7⟩ := J
  unfold wp_Joins_has
  rintro y rfl
  rw [jr_shr hk, jr_and hk]
  refine br_f (nI_pos (by omega)) ⟨j1, u, j2, by omega, by omega, ?_⟩
  rw [j4]
  refine pk_le R (k / 2048) (fun z => h0 fun v => ?_) (fun z => ?_)
  · have := v.1; omega
  obtain ⟨q1, q2, q3, q4⟩ := j6 (k / 2048) z
  refine ⟨j1, u, j2, j3, pk_in (k / 2048) _ (by rw [j4]; exact z), row (k / 2048), ?_, by omega, by omega, ?_⟩
  · rw [jr_cl (by omega)]; exact q1
  rw [q3]
  exact pk_le (len (k / 2048)) (k % 2048) (fun w => h0 fun v => by have := v.2; omega) (fun w => h1 ⟨z, w⟩)
theorem JC.put {up : Nat → Nat} (J : JS h o u row len R) (C : JC h row up (vl len R)) {k : Nat} (hk : vl len R k) (v : Nat) : JC (sA h (row (k / 2048)) (k % 2048) (nI v)) row (va_up up k v) (vl len R) := by
  intro n vn
  rw [gA_sA]
  by_cases e : n = k
  · subst e; simp [va_up_self]
  · rw [va_up_ne _ _ e, if_neg, C n vn]
    rintro ⟨e1, e2⟩
    have := J.2.2.2.2.2.2 _ _ vn.1 hk.1 e1
    omega
theorem JS.put (J : JS h o u row len R) {a i : Nat} {v : Int32} : JS (sA h a i v) o u row len R := J
theorem sm_row {k : Nat} (hk : vl len R k) {i : Nat} {v : Int32} : sm (fun a => ∀ r, r < R → a ≠ row r) h (sA h (row (k / 2048)) i v) := fun a ha => ce_sA (ha _ hk.1)
theorem sp_climb {post : Int32 → HS → Prop} (J : JF h o u row len R ld) {k : Nat} (hk : vl len R k) (kk : ∀ h', JF h' o u row len R ld → sm (fun a => ∀ r, r < R → a ≠ row r) h h' → post (nI (ld k)) h') : wp_Joins_climb Z post h o (nI k) := by
  unfold wp_Joins_climb
  refine lp_inv (fun q => ∃ n j, q.1 = nI n ∧ q.2.1 = nI j ∧ vl len R n ∧ ld n = ld k ∧ n + j ≤ k ∧ JF q.2.2 o u row len R ld ∧ sm (fun a => ∀ r, r < R → a ≠ row r) h q.2.2) (fun q => q.1.toNatClampNeg) ?_ _ ⟨k, 0, rfl, rfl, hk, rfl, by omega, J, sm_rf⟩
  rintro ⟨x2, x3, h1⟩ K ⟨n, j, e1, e2, vn, en, hj, J1, s1⟩ hK
  dsimp only at e1 e2 J1 s1
  subst e1 e2
  have hkl := vl_lt hk J.1.2.2.2.2.1
  have hnl := vl_lt vn J.1.2.2.2.2.1
  obtain ⟨⟨j1, j2, j3, j4, j5, j6, j7⟩, ⟨up, C, F⟩, O⟩ := id J1
  obtain ⟨f1, f2, f3, f4, f5⟩ := F n vn
  obtain ⟨g1, g2, g3, g4, g5⟩ := F (up n) f2
  have hul := vl_lt f2 J.1.2.2.2.2.1
  obtain ⟨q1, q2, q3, q4⟩ := j6 (n / 2048) vn.1
  obtain ⟨r1, r2, r3, r4⟩ := j6 (up n / 2048) f2.1
  unfold wb_Joins_climb_4
  dsimp only
  refine pk_le 1000000 j (fun z => by omega) (fun _ => ?_)
  rw [jr_shr (by omega), jr_and (by omega), jr_cl (by omega), jr_cl (by omega)]
  refine ⟨j1, u, j2, j3, pk_in _ _ (by rw [j4]; exact vn.1), row (n / 2048), q1, q2, pk_in _ _ (by rw [q3]; exact vn.2), ?_⟩
  rintro y rfl
  rw [C n vn]
  constructor
  · intro hne
    have hne' : up n ≠ n := fun z => hne (by rw [z])
    rw [jr_shr (k := up n) (by omega), jr_and (k := up n) (by omega), jr_cl (k := up n / 2048) (by omega), jr_cl (k := up n % 2048) (by omega)]
    refine ⟨j1, u, j2, j3, pk_in _ _ (by rw [j4]; exact f2.1), row (up n / 2048), r1, r2, pk_in _ _ (by rw [r3]; exact f2.2), ?_⟩
    rintro y rfl
    rw [C (up n) f2]
    refine ⟨j1, u, j2, j3, pk_in _ _ (by rw [j4]; exact vn.1), row (n / 2048), q1, q2, pk_in _ _ (by rw [q3]; exact vn.2), ?_⟩
    rintro h2 rfl y rfl
    refine hK _ ⟨up (up n), j + 1, rfl, nI_1 j, g2, by rw [g3, f3, en], by omega, ⟨J1.1.put, ⟨_, C.put J1.1 vn _, F.put g2 (by omega) (by rw [g3, f3]) (by omega)⟩, O⟩, sm_tr s1 (sm_row vn)⟩ ?_
    dsimp only
    rw [jr_cl (by omega), jr_cl (by omega)]; omega
  · intro he
    have he' : up n = n := by
      have := (nI_eq (a := up n) (b := n) (by omega) (by omega)).mp he
      exact this
    have := kk h1 J1 s1
    rw [← en, f4 he'] at this
    exact this
theorem JF.frame {h' : HS} (J : JF h o u row len R ld) (e : ∀ a, (a = o ∨ a = u ∨ ∃ r, r < R ∧ a = row r) → ce h h' a) : JF h' o u row len R ld := by
  obtain ⟨⟨j1, j2, j3, j4, j5, j6, j7⟩, ⟨up, C, F⟩, O⟩ := J
  have eo := e o (Or.inl rfl)
  have eu := e u (Or.inr (Or.inl rfl))
  have er : ∀ r, r < R → ce h h' (row r) := fun r hr => e _ (Or.inr (Or.inr ⟨r, hr, rfl⟩))
  refine ⟨⟨by rw [eo.T]; exact j1, by rw [eo.R]; exact j2, by rw [eu.T]; exact j3, by rw [eu.N]; exact j4, j5, fun r hr => ?_, j7⟩, ⟨up, fun n vn => ?_, F⟩, O⟩
  · obtain ⟨q1, q2, q3, q4⟩ := j6 r hr
    exact ⟨by rw [eu.Q]; exact q1, by rw [(er r hr).T]; exact q2, by rw [(er r hr).N]; exact q3, q4⟩
  · rw [(er _ vn.1).A]; exact C n vn
theorem sp_root {post : Int32 → HS → Prop} (J : JF h o u row len R ld) {k : Nat} (hk : vl len R k) (kk : ∀ h', JF h' o u row len R ld → sm (fun a => ∀ r, r < R → a ≠ row r) h h' → post (nI (ld k)) h') : wp_Joins_root Z post h o (nI k) := by
  have hkl := vl_lt hk J.1.2.2.2.2.1
  refine ⟨J.1.1, sp_has J.1 (by omega) (fun _ => ⟨fun z => absurd z (by decide), fun _ => ⟨J.1.1, sp_climb J hk kk⟩⟩) (fun z => absurd hk z)⟩
theorem sp_join {post : HS → Prop} (J : JF h o u row len R ld) {a b : Nat} (ha : vl len R a) (hb : vl len R b) (kk : ∀ h', JF h' o u row len R (jn ld a b) → sm (fun a => ∀ r, r < R → a ≠ row r) h h' → post h') : wp_Joins_join Z post h o (nI a) (nI b) := by
  have hal := vl_lt ha J.1.2.2.2.2.1
  have hbl := vl_lt hb J.1.2.2.2.2.1
  refine ⟨J.1.1, sp_has J.1 (by omega) (fun _ => ⟨fun z => absurd z (by decide), fun _ => ⟨J.1.1, sp_has J.1 (by omega) (fun _ => ⟨fun _ => ⟨J.1.1, sp_climb J ha fun h1 J1 s1 => ⟨J1.1.1, sp_climb J1 hb fun h2 J2 s2 => ?_⟩⟩, fun z => absurd z (by decide)⟩) (fun z => absurd hb z)⟩⟩) (fun z => absurd ha z)⟩
  obtain ⟨⟨j1, j2, j3, j4, j5, j6, j7⟩, ⟨up, C, F⟩, O⟩ := id J2
  obtain ⟨ra1, ra2⟩ := F.root a ha
  obtain ⟨rb1, rb2⟩ := F.root b hb
  have hrl := vl_lt ra1 j5
  have hsl := vl_lt rb1 j5
  have e1 : (if nI (ld b) < nI (ld a) then nI (ld b) else nI (ld a)) = nI (min (ld a) (ld b)) := by
    split
    · rename_i z; rw [nI_ltI (by omega) (by omega)] at z; rw [Nat.min_eq_right (by omega)]
    · rename_i z; rw [nI_ltI (by omega) (by omega)] at z; rw [Nat.min_eq_left (by omega)]
  have e2 : (if nI (ld a) < nI (ld b) then nI (ld b) else nI (ld a)) = nI (max (ld a) (ld b)) := by
    split
    · rename_i z; rw [nI_ltI (by omega) (by omega)] at z; rw [Nat.max_eq_right (by omega)]
    · rename_i z; rw [nI_ltI (by omega) (by omega)] at z; rw [Nat.max_eq_left (by omega)]
  rintro y15 rfl y16 rfl
  rw [e1, e2]
  have vm : vl len R (max (ld a) (ld b)) := by
    rcases Nat.le_total (ld a) (ld b) with z | z
    · rw [Nat.max_eq_right z]; exact rb1
    · rw [Nat.max_eq_left z]; exact ra1
  obtain ⟨q1, q2, q3, q4⟩ := j6 _ vm.1
  rw [jr_shr (by omega), jr_and (by omega), jr_cl (by omega), jr_cl (by omega)]
  refine ⟨j1, u, j2, j3, pk_in _ _ (by rw [j4]; exact vm.1), row _, q1, q2, pk_in _ _ (by rw [q3]; exact vm.2), ?_⟩
  rintro h3 rfl
  exact kk _ ⟨J2.1.put, ⟨_, C.put J2.1 vm _, F.join ha hb⟩, jn_out F O ha hb⟩ (sm_tr (sm_tr s1 s2) (sm_row vm))
end JSP
