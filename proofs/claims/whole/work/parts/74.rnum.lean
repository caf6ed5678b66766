/-! THE REFERENCE's NUMBERS -/
def XL (vm : Nat) (R : Nat → Nat) (B : Nat → Nat × Nat) (h : HS) (d : DS) (ld : Nat → Nat) : Prop := RS vm R B h ∧ RD vm R h d ∧ NR R h ld
def NE (vm : Nat) (R : Nat → Nat) (h : HS) (d : DS) (ld : Nat → Nat) (K : Nat) : Prop := gI h 829 vm = nI (cn (fst d) K) ∧ (∀ k, k < 960 → ((k < K ∧ vR d k) → gA h (R 827) k = nI (nn d k)) ∧ (¬ (k < K ∧ vR d k) → gA h (R 827) k = -1)) ∧ ∀ j, j < 19520 → (∀ k, k < K → vR d k → j = ld (2560 + k) → gA h (R 826) j = nI (nn d k)) ∧ ((∀ k, k < K → vR d k → j ≠ ld (2560 + k)) → gA h (R 826) j = -1)
/-- what was written before -/
def NBf (R : Nat → Nat) (h : HS) (c : DS) : Prop := ∀ k, k < 960 → (vR c k → gA h (R 828) k = nI (nn c k)) ∧ (¬ vR c k → gA h (R 828) k = -1)
def KR (vm : Nat) (R : Nat → Nat) (B : Nat → Nat × Nat) (h : HS) (d : DS) (ch : Nat → Prop) : Prop := RS vm R B h ∧ RD vm R h d ∧ gI h 829 vm = nI (cnt d) ∧ (∀ n, n < cnt d → (¬ gA h (R 830) n = 0 ↔ ch n)) ∧ ((gI h 832 vm = 0 ∧ nS d = 0 ∧ nP d = 0 ∧ nL d = 0) ∨ (¬ gI h 832 vm = 0 ∧ ∃ ld, NR R h ld ∧ LD ld (SR d) ∧ NE vm R h d ld 960))
def OLD (vm : Nat) (R : Nat → Nat) (h : HS) (c : DS) : Prop := (gI h 832 vm = 0 ∧ ∀ k, ¬ vR c k) ∨ (¬ gI h 832 vm = 0 ∧ ∀ k, k < 960 → (vR c k → gA h (R 827) k = nI (nn c k)) ∧ (¬ vR c k → gA h (R 827) k = -1))
abbrev sm20 (B : Nat → Nat × Nat) : HS → HS → Prop := sm (fun a => (B a).1 ≠ 20)
section RNU
variable {Z : Nat → Nat} {vm : Nat} {R : Nat → Nat} {B : Nat → Nat × Nat} {h h' : HS} {d c : DS} {ld : Nat → Nat}
theorem RS.wA (S : RS vm R B h) {f i : Nat} {v : Int32} (hf : rK f ≠ 0) (e : h' = sA h (R f) i v) : RS vm R B h' ∧ sm20 B h h' ∧ (∀ g, gI h' g vm = gI h g vm) ∧ (∀ g, g ≠ f → rK g ≠ 0 → ce h h' (R g)) ∧ ∀ j, gA h' (R f) j = if j = i then v else gA h (R f) j := by
  refine ⟨?_, ?_, fun g => by rw [e, gI_sA], fun g hg hk => by rw [e]; exact ce_sA (S.ne hk hf hg), fun j => ?_⟩
  · rw [e]; unfold RS at S ⊢
    simp only [gR_sA, gT_sA, gN_sA]; exact S
  · rw [e]; exact fun a ha => ce_sA fun w => ha (by rw [w, (S.2.2 f hf).2.1])
  · rw [e, gA_sA]
    by_cases w : j = i
    · rw [if_pos ⟨rfl, w⟩, if_pos w]
    · rw [if_neg (fun y => w y.2), if_neg w]
theorem RS.wI (S : RS vm R B h) {f : Nat} {v : Int32} (e : h' = sI h f vm v) : RS vm R B h' ∧ sm20 B h h' ∧ (∀ g, gI h' g vm = if g = f then v else gI h g vm) ∧ ∀ g, rK g ≠ 0 → ce h h' (R g) := by
  refine ⟨?_, ?_, fun g => ?_, fun g hk => by rw [e]; exact ce_sI (S.nv hk)⟩
  · rw [e]; unfold RS at S ⊢
    simp only [gR_sI, gT_sI, gN_sI]; exact S
  · rw [e]; exact fun a ha => ce_sI fun w => ha (by rw [w, S.2.1])
  · rw [e, gI_sI]
    by_cases w : g = f
    · rw [if_pos ⟨w, rfl⟩, if_pos w]
    · rw [if_neg (fun y => w y.1), if_neg w]
theorem XL.wA (X : XL vm R B h d ld) {f i : Nat} {v : Int32} (hf : rK f ≠ 0) (f5 : 826 ≤ f) (e : h' = sA h (R f) i v) : XL vm R B h' d ld := by
  obtain ⟨S, D, up, U, F⟩ := X
  obtain ⟨S', s, I, c, a⟩ := S.wA hf e
  refine ⟨S', D.frame (fun g _ _ => I g) fun g h1 h2 hk => ?_, up, fun n hn => by rw [(c 825 (by omega) (by decide)).A]; exact U n hn, F⟩
  have := c g (by omega) hk
  exact ⟨this.A, this.L⟩
theorem XL.wI (X : XL vm R B h d ld) {f : Nat} {v : Int32} (f5 : f = 800 ∨ 829 ≤ f) (e : h' = sI h f vm v) : XL vm R B h' d ld := by
  obtain ⟨S, D, up, U, F⟩ := X
  obtain ⟨S', s, I, c⟩ := S.wI e
  refine ⟨S', D.frame (fun g _ _ => by rw [I g, if_neg (by omega)]) fun g h1 h2 hk => ?_, up, fun n hn => by rw [(c 825 (by decide)).A]; exact U n hn, F⟩
  have := c g hk
  exact ⟨this.A, this.L⟩
theorem NE.skip {K L : Nat} (N : NE vm R h d ld K) (hKL : K ≤ L) (no : ∀ k, K ≤ k → k < L → ¬ vR d k) : NE vm R h d ld L := by
  obtain ⟨n1, n2, n3⟩ := N
  have iff : ∀ k, (k < L ∧ vR d k) ↔ (k < K ∧ vR d k) := fun k => ⟨fun w => ⟨Nat.lt_of_not_le fun z => no k z w.1 w.2, w.2⟩, fun w => ⟨by omega, w.2⟩⟩
  refine ⟨by rw [cn_skip hKL fun k a b p => no k a b p.1]; exact n1, fun k hk => ?_, fun j hj => ⟨fun k hk v e => (n3 j hj).1 k ((iff k).mp ⟨hk, v⟩).1 v e, fun w => (n3 j hj).2 fun k hk v => w k (by omega) v⟩⟩
  rw [iff]; exact n2 k hk
/-- one copy more: its leader's number is there, or is made -/
theorem r_numOne {K66 : Int32 × Int32 × HS → Prop} {K51 : Int32 × HS → Prop} {post : HS → Prop} {p t : Nat} (hd : WF d) (L : LD ld (SR d)) (X : XL vm R B h d ld) (N : NE vm R h d ld (16 * p + t)) (v : vR d (16 * p + t)) (ht : t < 16) (kk : ∀ h', XL vm R B h' d ld → NE vm R h' d ld (16 * p + t + 1) → sm20 B h h' → (∀ f, f ≠ 829 → gI h' f vm = gI h f vm) → (∀ g, g ≠ 826 → g ≠ 827 → rK g ≠ 0 → ce h h' (R g)) → wj_Mod_number_154 Z post K51 K66 vm (nI p) (nI t) h') :
    wp_Mod_leader Z (fun r11 h12 => gT h12 vm = 24 ∧ (∃ a15, (gR h12 826 vm) = some a15 ∧ gT h12 a15 = 1 ∧ vp_in r11 (gN h12 a15) ∧ ((¬ (gA h12 a15 r11.toNatClampNeg) = (-1 : Int32) → (wj_Mod_number_137 Z post K51 K66 vm (nI p) (nI t) r11 h12)) ∧ ((gA h12 a15 r11.toNatClampNeg) = (-1 : Int32) → (gT h12 vm = 24 ∧ (gT h12 vm = 24 ∧ (∃ a20, (gR h12 826 vm) = some a20 ∧ gT h12 a20 = 1 ∧ vp_in r11 (gN h12 a20) ∧ (∀ h22, h22 = sA h12 a20 r11.toNatClampNeg (gI h12 829 vm) → (gT h22 vm = 24 ∧ (gT h22 vm = 24 ∧ (∀ h25, h25 = sI h22 829 vm ((gI h22 829 vm) + (1 : Int32)) → (wj_Mod_number_137 Z post K51 K66 vm (nI p) (nI t) r11 h25)))))))))))) h vm (nI (2560 + (16 * p + t))) := by
  obtain ⟨n1, n2, n3⟩ := id N
  have k9 := vR_lt hd v
  have lk := L.1 (2560 + (16 * p + t))
  have lk' : ld (2560 + (16 * p + t)) < 19520 := by omega
  have nl := nn_lt hd v
  have rr : ∀ j, vR d j → (ld (2560 + (16 * p + t)) = ld (2560 + j) ↔ RR d j (16 * p + t)) := fun j vj => ⟨fun e => ((L.iff _ _).mp e).sy, fun e => ((L.iff _ _).mpr e).symm⟩
  -- the end
  have fin : ∀ h2, XL vm R B h2 d ld → gI h2 829 vm = nI (cn (fst d) (16 * p + t + 1)) → (gA h2 (R 827) = gA h (R 827)) → (∀ j, j < 19520 → (∀ k, k < 16 * p + t + 1 → vR d k → j = ld (2560 + k) → gA h2 (R 826) j = nI (nn d k)) ∧ ((∀ k, k < 16 * p + t + 1 → vR d k → j ≠ ld (2560 + k)) → gA h2 (R 826) j = -1)) → sm20 B h h2 → (∀ f, f ≠ 829 → gI h2 f vm = gI h f vm) → (∀ g, g ≠ 826 → g ≠ 827 → rK g ≠ 0 → ce h h2 (R g)) → wj_Mod_number_137 Z post K51 K66 vm (nI p) (nI t) (nI (ld (2560 + (16 * p + t)))) h2 := by
    intro h2 X2 c2 a27 a26 s2 i2 g2
    unfold wj_Mod_number_137
    rw [show (16 : Int32) = nI 16 from rfl, pk_mul, nI_add, jr_cl (by omega), jr_cl (by omega)]
    refine ⟨X2.1.1, X2.1.1, X2.1.rd 826 1 (ld (2560 + (16 * p + t))) rfl (by decide) lk' (X2.1.rd 827 1 (16 * p + t) rfl (by decide) k9 ?_)⟩
    rw [(a26 _ lk').1 (16 * p + t) (by omega) v rfl]
    intro h3 e3
    obtain ⟨S3, s3, I3, c3, a3⟩ := X2.1.wA (by decide) e3
    refine kk h3 (X2.wA (by decide) (by omega) e3) ⟨by rw [I3]; exact c2, fun k hk => ?_, fun j hj => by rw [(c3 826 (by omega) (by decide)).A]; exact a26 j hj⟩ (sm_tr s2 s3) (fun f hf => by rw [I3]; exact i2 f hf) (fun g g1 g3 g4 => ce_tr (g2 g g1 g3 g4) (c3 g g3 g4))
    rw [a3, a27]
    by_cases w : k = 16 * p + t
    · rw [if_pos w, w]
      exact ⟨fun _ => rfl, fun y => absurd ⟨by omega, v⟩ y⟩
    · rw [if_neg w]
      have iff : (k < 16 * p + t + 1 ∧ vR d k) ↔ (k < 16 * p + t ∧ vR d k) := ⟨fun y => ⟨by have := y.1; omega, y.2⟩, fun y => ⟨by omega, y.2⟩⟩
      rw [iff]; exact n2 k hk
  refine r_leader X.1 X.2.2 (by omega) ⟨X.1.1, X.1.rd 826 1 (ld (2560 + (16 * p + t))) rfl (by decide) lk' ?_⟩
  rw [jr_cl (by omega)]
  by_cases ex : ∃ j, j < 16 * p + t ∧ vR d j ∧ RR d j (16 * p + t)
  · obtain ⟨j, j1, j2, j3⟩ := ex
    have e := (n3 _ lk').1 j j1 j2 ((rr j j2).mpr j3)
    have nj : nn d j = nn d (16 * p + t) := (nn_eq j2 v).mpr j3
    have nf : ¬ fst d (16 * p + t) := fun w => w.2 j j1 j2 j3
    rw [e]
    refine ⟨fun _ => fin h X (by rw [cn_n nf]; exact n1) rfl (fun i hi => ⟨fun k hk vk ek => ?_, fun w => (n3 i hi).2 fun k hk vk => w k (by omega) vk⟩) sm_rf (fun _ _ => rfl) (fun _ _ _ _ => ce_rf _ _), fun y => absurd y (nI_m1 (by have := nn_lt hd j2; omega))⟩
    by_cases y : k = 16 * p + t
    · subst y
      rw [← nj]; exact (n3 i hi).1 j j1 j2 (by rw [ek]; exact (rr j j2).mpr j3)
    · exact (n3 i hi).1 k (by omega) vk ek
  · have f : fst d (16 * p + t) := ⟨v, fun j j1 j2 j3 => ex ⟨j, j1, j2, j3⟩⟩
    have e := (n3 _ lk').2 fun j j1 j2 j3 => ex ⟨j, j1, j2, (rr j j2).mp j3⟩
    rw [e]
    refine ⟨fun y => absurd rfl y, fun _ => ⟨X.1.1, X.1.1, X.1.rd 826 1 (ld (2560 + (16 * p + t))) rfl (by decide) lk' ?_⟩⟩
    intro h1 e1
    rw [n1] at e1
    obtain ⟨S1, s1, I1, c1, a1⟩ := X.1.wA (by decide) e1
    have X1 := X.wA (by decide) (by omega) e1
    clear e1
    refine ⟨X1.1.1, X1.1.1, ?_⟩
    intro h2 e2
    rw [I1, n1, nI_1] at e2
    obtain ⟨S2, s2, I2, c2⟩ := X1.1.wI e2
    refine fin h2 (X1.wI (by omega) e2) (by rw [I2, if_pos rfl, cn_s f]) (by rw [(c2 827 (by decide)).A, (c1 827 (by omega) (by decide)).A]) (fun i hi => ?_) (sm_tr s1 s2) (fun g hg => by rw [I2, if_neg hg]; exact I1 g) (fun g g1 g3 g4 => ce_tr (c1 g g1 g4) (c2 g g4))
    rw [(c2 826 (by decide)).A, a1]
    by_cases y : i = ld (2560 + (16 * p + t))
    · rw [if_pos y]
      refine ⟨fun k hk vk ek => ?_, fun w => absurd y (w _ (by omega) v)⟩
      have : RR d k (16 * p + t) := (rr k vk).mp (by rw [← y]; exact ek)
      rw [(nn_eq vk v).mpr this, nn_fst f]
    · rw [if_neg y]
      refine ⟨fun k hk vk ek => (n3 i hi).1 k (Nat.lt_of_le_of_ne (by omega) fun w => y (by rw [ek, w])) vk ek, fun w => (n3 i hi).2 fun k hk vk => w k (by omega) vk⟩
theorem r_number {post : HS → Prop} (hd : WF d) (L : LD ld (SR d)) (X : XL vm R B h d ld) (kk : ∀ h', XL vm R B h' d ld → NE vm R h' d ld 960 → sm20 B h h' → (∀ f, f ≠ 829 → gI h' f vm = gI h f vm) → (∀ g, g ≠ 826 → g ≠ 827 → rK g ≠ 0 → ce h h' (R g)) → post h') : wp_Mod_number Z post h vm := by
  have hS := hd.1.1
  have hP := hd.1.2.2.2.2.1
  -- the pins
  have pins : ∀ h0, XL vm R B h0 d ld → NE vm R h0 d ld 0 → sm20 B h h0 → (∀ f, f ≠ 829 → gI h0 f vm = gI h f vm) → (∀ g, g ≠ 826 → g ≠ 827 → rK g ≠ 0 → ce h h0 (R g)) → lp (wb_Mod_number_51 Z post vm) ((0 : Int32), h0) := by
    intro h0 X0 N0 s0 i0 g0
    refine lp_inv (fun q => ∃ p h1, p ≤ nP d ∧ q = (nI p, h1) ∧ XL vm R B h1 d ld ∧ NE vm R h1 d ld (16 * p) ∧ sm20 B h h1 ∧ (∀ f, f ≠ 829 → gI h1 f vm = gI h f vm) ∧ ∀ g, g ≠ 826 → g ≠ 827 → rK g ≠ 0 → ce h h1 (R g)) (fun q => nP d - q.1.toNatClampNeg) ?_ _ ⟨0, h0, by omega, rfl, X0, N0, s0, i0, g0⟩
    rintro q K ⟨p, h1, hp, rfl, X1, N1, s1, i1, g1⟩ hK
    unfold wb_Mod_number_51
    dsimp only
    refine ⟨X1.1.1, ?_⟩
    rw [X1.2.1.1.2.2.2.2.1]
    refine pk_le (nP d) p (fun z => kk h1 X1 (N1.skip (by omega) fun k k1 k2 v => by have := v.1; omega) s1 i1 g1) (fun z => ⟨X1.1.1, X1.1.rd 816 1 p rfl (by decide) (by show p < 60; omega) ?_⟩)
    obtain ⟨ps, pb, -⟩ := hd.2.2.2.2.2.1 p z
    rintro y rfl
    rw [jr_cl (by omega), (X1.2.1.2.2.2.2.2.1.1 p z).1]
    refine lp_inv (fun q => ∃ t h2, pSh d p ≤ t ∧ t ≤ nS d ∧ q = (nI p, nI t, h2) ∧ XL vm R B h2 d ld ∧ NE vm R h2 d ld (16 * p + t) ∧ sm20 B h h2 ∧ (∀ f, f ≠ 829 → gI h2 f vm = gI h f vm) ∧ ∀ g, g ≠ 826 → g ≠ 827 → rK g ≠ 0 → ce h h2 (R g)) (fun q => nS d - q.2.1.toNatClampNeg) ?_ _ ⟨pSh d p, h1, by omega, by omega, rfl, X1, N1.skip (by omega) fun k k1 k2 v => ?_, s1, i1, g1⟩
    rotate_left
    · have v2 := v.2.2
      rw [show k / 16 = p from by omega] at v2
      have := (hd.2.1 _ v.2.1).1
      omega
    rintro q K2 ⟨t, h2, ht1, ht2, rfl, X2, N2, s2, i2, g2⟩ hK2
    have next : ∀ h3, XL vm R B h3 d ld → NE vm R h3 d ld (16 * p + t + 1) → sm20 B h h3 → (∀ f, f ≠ 829 → gI h3 f vm = gI h f vm) → (∀ g, g ≠ 826 → g ≠ 827 → rK g ≠ 0 → ce h h3 (R g)) → t < nS d → wj_Mod_number_154 Z post K K2 vm (nI p) (nI t) h3 := by
      intro h3 X3 N3 s3 i3 g3 ht
      rintro y rfl
      refine hK2 _ ⟨t + 1, h3, by omega, by omega, by rw [nI_1], X3, N3, s3, i3, g3⟩ ?_
      dsimp only
      rw [nI_1, jr_cl (by omega), jr_cl (by omega)]; omega
    unfold wb_Mod_number_66
    dsimp only
    refine ⟨X2.1.1, ?_⟩
    rw [X2.2.1.1.1]
    refine pk_le (nS d) t (fun y => ?_) (fun y => ⟨X2.1.1, X2.1.rd 803 1 t rfl (by decide) (by show t < 16; omega) ⟨X2.1.1, X2.1.rd 816 1 p rfl (by decide) (by show p < 60; omega) ?_⟩⟩)
    · rintro y rfl
      refine hK _ ⟨p + 1, h2, by omega, by rw [nI_1], X2, N2.skip (by omega) fun k k1 k2 v => ?_, s2, i2, g2⟩ ?_
      · have := v.2.1
        omega
      · dsimp only
        rw [nI_1, jr_cl (by omega), jr_cl (by omega)]; omega
    have bt := (hd.2.1 t y).1
    rw [jr_cl (by omega), jr_cl (by omega), (X2.2.1.2.1 t y).2, (X2.2.1.2.2.2.2.2.1.1 p z).1, nI_eq (by omega) (by omega)]
    refine ⟨fun e => ⟨X2.1.1, ?_⟩, fun e => next h2 X2 (N2.skip (by omega) fun k k1 k2 v => ?_) s2 i2 g2 y⟩
    · rw [show (16 : Int32) = nI 16 from rfl, show (2560 : Int32) = nI 2560 from rfl, pk_mul, nI_add, nI_add, Nat.add_assoc]
      have v : vR d (16 * p + t) := by
        unfold vR
        rw [show (16 * p + t) / 16 = p from by omega, show (16 * p + t) % 16 = t from by omega]
        exact ⟨z, y, e⟩
      exact r_numOne hd L X2 N2 v (by omega) fun h3 X3 N3 s3 i3 g3 => next h3 X3 N3 (sm_tr s2 s3) (fun f hf => by rw [i3 f hf]; exact i2 f hf) (fun g a b e => ce_tr (g2 g a b e) (g3 g a b e)) y
    · have v2 := v.2.2
      rw [show k / 16 = p from by omega, show k % 16 = t from by omega] at v2
      exact e v2
  -- net is filled
  have second : ∀ h0, XL vm R B h0 d ld → (∀ j, j < 19520 → gA h0 (R 826) j = -1) → sm20 B h h0 → (∀ f, f ≠ 829 → gI h0 f vm = gI h f vm) → (∀ g, g ≠ 826 → g ≠ 827 → rK g ≠ 0 → ce h h0 (R g)) → lp (wb_Mod_number_24 Z post vm) ((0 : Int32), h0) := by
    intro h0 X0 A0 s0 i0 g0
    refine lp_inv (fun q => ∃ i h1, i ≤ 960 ∧ q = (nI i, h1) ∧ XL vm R B h1 d ld ∧ (∀ j, j < 19520 → gA h1 (R 826) j = -1) ∧ (∀ j, j < i → gA h1 (R 827) j = -1) ∧ sm20 B h h1 ∧ (∀ f, f ≠ 829 → gI h1 f vm = gI h f vm) ∧ ∀ g, g ≠ 826 → g ≠ 827 → rK g ≠ 0 → ce h h1 (R g)) (fun q => 960 - q.1.toNatClampNeg) ?_ _ ⟨0, h0, by omega, rfl, X0, A0, fun j hj => absurd hj (Nat.not_lt_zero _), s0, i0, g0⟩
    rintro q K ⟨i, h1, hi, rfl, X1, A1, N1, s1, i1, g1⟩ hK
    unfold wb_Mod_number_24
    dsimp only
    refine pk_le 960 i (fun z => ⟨X1.1.1, ?_⟩) (fun z => ⟨X1.1.1, X1.1.rd 827 1 i rfl (by decide) z ?_⟩)
    · intro h2 e2
      obtain ⟨S2, s2, I2, c2⟩ := X1.1.wI e2
      refine pins h2 (X1.wI (by omega) e2) ⟨by rw [I2, if_pos rfl]; rfl, fun k hk => ⟨fun w => absurd w.1 (Nat.not_lt_zero _), fun _ => by rw [(c2 827 (by decide)).A]; exact N1 k (by omega)⟩, fun j hj => ⟨fun k hk => absurd hk (Nat.not_lt_zero _), fun _ => by rw [(c2 826 (by decide)).A]; exact A1 j hj⟩⟩ (sm_tr s1 s2) (fun f hf => by rw [I2, if_neg hf]; exact i1 f hf) (fun g a b e => ce_tr (g1 g a b e) (c2 g e))
    · intro h2 e2
      rw [jr_cl (by omega)] at e2
      obtain ⟨S2, s2, I2, c2, a2⟩ := X1.1.wA (by decide) e2
      rintro y rfl
      refine hK _ ⟨i + 1, h2, by omega, by rw [nI_1], X1.wA (by decide) (by omega) e2, fun j hj => by rw [(c2 826 (by omega) (by decide)).A]; exact A1 j hj, fun j hj => ?_, sm_tr s1 s2, fun f hf => by rw [I2]; exact i1 f hf, fun g a b e => ce_tr (g1 g a b e) (c2 g b e)⟩ ?_
      · rw [a2]
        by_cases w : j = i
        · rw [if_pos w]
        · rw [if_neg w]; exact N1 j (by omega)
      · dsimp only
        rw [nI_1, jr_cl (by omega), jr_cl (by omega)]; omega
  refine lp_inv (fun q => ∃ i h1, i ≤ 19520 ∧ q = (nI i, h1) ∧ XL vm R B h1 d ld ∧ (∀ j, j < i → gA h1 (R 826) j = -1) ∧ sm20 B h h1 ∧ (∀ f, f ≠ 829 → gI h1 f vm = gI h f vm) ∧ ∀ g, g ≠ 826 → g ≠ 827 → rK g ≠ 0 → ce h h1 (R g)) (fun q => 19520 - q.1.toNatClampNeg) ?_ _ ⟨0, h, by omega, rfl, X, fun j hj => absurd hj (Nat.not_lt_zero _), sm_rf, fun _ _ => rfl, fun _ _ _ _ => ce_rf _ _⟩
  rintro q K ⟨i, h1, hi, rfl, X1, A1, s1, i1, g1⟩ hK
  unfold wb_Mod_number_2
  dsimp only
  refine pk_le 19520 i (fun z => second h1 X1 (fun j hj => A1 j (by omega)) s1 i1 g1) (fun z => ⟨X1.1.1, X1.1.rd 826 1 i rfl (by decide) z ?_⟩)
  intro h2 e2
  rw [jr_cl (by omega)] at e2
  obtain ⟨S2, s2, I2, c2, a2⟩ := X1.1.wA (by decide) e2
  rintro y rfl
  refine hK _ ⟨i + 1, h2, by omega, by rw [nI_1], X1.wA (by decide) (by omega) e2, fun j hj => ?_, sm_tr s1 s2, fun f hf => by rw [I2]; exact i1 f hf, fun g a b e => ce_tr (g1 g a b e) (c2 g a e)⟩ ?_
  · rw [a2]
    by_cases w : j = i
    · rw [if_pos w]
    · rw [if_neg w]; exact A1 j (by omega)
  · dsimp only
    rw [nI_1, jr_cl (by omega), jr_cl (by omega)]; omega
end RNU
