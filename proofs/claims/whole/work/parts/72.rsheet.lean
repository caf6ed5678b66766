section RSH
variable {Z : Nat → Nat} {vm : Nat} {R : Nat → Nat} {B : Nat → Nat × Nat} {h h' : HS} {d : DS} {S : Nat → Nat → Prop}
/-! all at a place -/
def plW (d : DS) (n t s : Nat) (u v : Int64) (w x y : Nat) : Prop := thru d s u v w ∧ x = n ∧ y = 16 * w + t
def plL (d : DS) (n t s : Nat) (u v : Int64) (l x y : Nat) : Prop := (lSh d l = s ∧ lX d l = u ∧ lY d l = v) ∧ x = n ∧ y = 1600 + 16 * l + t
def plP (d : DS) (n t s : Nat) (u v : Int64) (p x y : Nat) : Prop := (pSh d p = s ∧ pX d p = u ∧ pY d p = v) ∧ x = n ∧ y = 2560 + 16 * p + t
def plc' (d : DS) (n t s : Nat) (u v : Int64) (x y : Nat) : Prop := (∃ w, w < nW d ∧ plW d n t s u v w x y) ∨ (∃ l, l < nL d ∧ plL d n t s u v l x y) ∨ (∃ p, p < nP d ∧ plP d n t s u v p x y)
theorem r_joinPlace {post : HS → Prop} {n t s : Nat} {u v : Int64} (hd : WF d) (X : XR vm R B h d S) (hn : n < 19520) (ht : t < 16) (hs : s < 2 ^ 31) (kk : ∀ h', XR vm R B h' d (fun x y => S x y ∨ plc' d n t s u v x y) → smj R h h' → post h') : wp_Mod_joinPlace Z post h vm (nI n) (nI t) (nI s) u v := by
  have hS := hd.1.1
  have hW := hd.1.2.1
  have hL := hd.1.2.2.2.1
  have hP := hd.1.2.2.2.2.1
  -- pins
  have third : ∀ h0 S0, XR vm R B h0 d S0 → smj R h h0 → (∀ h', XR vm R B h' d (acc S0 (plP d n t s u v) (nP d)) → smj R h h' → post h') → lp (wb_Mod_joinPlace_133 Z post vm) (nI n, nI t, nI s, u, v, (0 : Int32), h0) := by
    intro h0 S0 X0 s0 kk
    refine lp_inv (fun q => ∃ i h1, i ≤ nP d ∧ q = (nI n, nI t, nI s, u, v, nI i, h1) ∧ XR vm R B h1 d (acc S0 (plP d n t s u v) i) ∧ smj R h h1) (fun q => nP d - q.2.2.2.2.2.1.toNatClampNeg) ?_ _ ⟨0, h0, by omega, rfl, X0.eq (acc_0 _ _), s0⟩
    rintro q K ⟨i, h1, hi, rfl, X1, s1⟩ hK
    have next : ∀ h2, XR vm R B h2 d (acc S0 (plP d n t s u v) (i + 1)) → smj R h h2 → i < nP d → wj_Mod_joinPlace_201 Z post K vm (nI n) (nI t) (nI s) u v (nI i) h2 := by
      intro h2 X2 s2 hi
      rintro y rfl
      refine hK _ ⟨i + 1, h2, by omega, by rw [nI_1], X2, s2⟩ ?_
      dsimp only
      rw [nI_1, jr_cl (by omega), jr_cl (by omega)]; omega
    obtain ⟨C1, D1, -⟩ := id X1
    unfold wb_Mod_joinPlace_133
    dsimp only
    refine ⟨C1.1, ?_⟩
    rw [D1.1.2.2.2.2.1]
    refine pk_le (nP d) i (fun z => kk h1 (X1.eq (by rw [show i = nP d from by omega])) s1) (fun z => ⟨C1.1, C1.rd 816 1 i rfl (by decide) (by show i < 60; omega) ?_⟩)
    obtain ⟨l1, l2, l3, l4⟩ := D1.2.2.2.2.2.1.1 i z
    have ls := (hd.2.2.2.2.2.1 i z).1
    rw [jr_cl (by omega), l1, nI_eq (by omega) hs]
    refine ⟨fun e => next h1 (X1.eq (acc_n fun x y p => e p.1.1)) s1 z, fun e => ?_⟩
    rw [show (2 : Int32) = nI 2 from rfl, pk_mul, show (1 : Int32) = nI 1 from rfl, nI_add, jr_cl (by omega), jr_cl (by omega)]
    refine ⟨C1.1, C1.rd 818 3 (2 * i) rfl (by decide) (by show 2 * i < 120; omega) ?_⟩
    rw [l3]
    refine ⟨fun f => next h1 (X1.eq (acc_n fun x y p => f ((lg_cmp_eq _ _).mpr p.1.2.1))) s1 z, fun f => ⟨C1.1, C1.rd 818 3 (2 * i + 1) rfl (by decide) (by show 2 * i + 1 < 120; omega) ?_⟩⟩
    rw [l4]
    refine ⟨fun g => next h1 (X1.eq (acc_n fun x y p => g ((lg_cmp_eq _ _).mpr p.1.2.2))) s1 z, fun g => ⟨C1.1, ?_⟩⟩
    rw [show (16 : Int32) = nI 16 from rfl, show (2560 : Int32) = nI 2560 from rfl, pk_mul, nI_add, nI_add]
    refine X1.join hn (by omega) fun h2 X2 s2 => next h2 (X2.eq ?_) (sm_tr s1 s2) z
    exact acc_1 fun x y => ⟨fun p => p.2, fun p => ⟨⟨e, (lg_cmp_eq _ _).mp f, (lg_cmp_eq _ _).mp g⟩, p⟩⟩
  -- labels
  have second : ∀ h0 S0, XR vm R B h0 d S0 → smj R h h0 → (∀ h', XR vm R B h' d (acc (acc S0 (plL d n t s u v) (nL d)) (plP d n t s u v) (nP d)) → smj R h h' → post h') → lp (wb_Mod_joinPlace_56 Z post vm) (nI n, nI t, nI s, u, v, (0 : Int32), h0) := by
    intro h0 S0 X0 s0 kk
    refine lp_inv (fun q => ∃ i h1, i ≤ nL d ∧ q = (nI n, nI t, nI s, u, v, nI i, h1) ∧ XR vm R B h1 d (acc S0 (plL d n t s u v) i) ∧ smj R h h1) (fun q => nL d - q.2.2.2.2.2.1.toNatClampNeg) ?_ _ ⟨0, h0, by omega, rfl, X0.eq (acc_0 _ _), s0⟩
    rintro q K ⟨i, h1, hi, rfl, X1, s1⟩ hK
    have next : ∀ h2, XR vm R B h2 d (acc S0 (plL d n t s u v) (i + 1)) → smj R h h2 → i < nL d → wj_Mod_joinPlace_124 Z post K vm (nI n) (nI t) (nI s) u v (nI i) h2 := by
      intro h2 X2 s2 hi
      rintro y rfl
      refine hK _ ⟨i + 1, h2, by omega, by rw [nI_1], X2, s2⟩ ?_
      dsimp only
      rw [nI_1, jr_cl (by omega), jr_cl (by omega)]; omega
    obtain ⟨C1, D1, -⟩ := id X1
    unfold wb_Mod_joinPlace_56
    dsimp only
    refine ⟨C1.1, ?_⟩
    rw [D1.1.2.2.2.1]
    refine pk_le (nL d) i (fun z => third h1 _ (X1.eq (by rw [show i = nL d from by omega])) s1 kk) (fun z => ⟨C1.1, C1.rd 812 1 i rfl (by decide) (by show i < 60; omega) ?_⟩)
    obtain ⟨l1, l2, l3, l4⟩ := D1.2.2.2.2.1 i z
    have ls := (hd.2.2.2.2.1 i z).1
    rw [jr_cl (by omega), l1, nI_eq (by omega) hs]
    refine ⟨fun e => next h1 (X1.eq (acc_n fun x y p => e p.1.1)) s1 z, fun e => ?_⟩
    rw [show (2 : Int32) = nI 2 from rfl, pk_mul, show (1 : Int32) = nI 1 from rfl, nI_add, jr_cl (by omega), jr_cl (by omega)]
    refine ⟨C1.1, C1.rd 814 3 (2 * i) rfl (by decide) (by show 2 * i < 120; omega) ?_⟩
    rw [l3]
    refine ⟨fun f => next h1 (X1.eq (acc_n fun x y p => f ((lg_cmp_eq _ _).mpr p.1.2.1))) s1 z, fun f => ⟨C1.1, C1.rd 814 3 (2 * i + 1) rfl (by decide) (by show 2 * i + 1 < 120; omega) ?_⟩⟩
    rw [l4]
    refine ⟨fun g => next h1 (X1.eq (acc_n fun x y p => g ((lg_cmp_eq _ _).mpr p.1.2.2))) s1 z, fun g => ⟨C1.1, ?_⟩⟩
    rw [show (16 : Int32) = nI 16 from rfl, show (1600 : Int32) = nI 1600 from rfl, pk_mul, nI_add, nI_add]
    refine X1.join hn (by omega) fun h2 X2 s2 => next h2 (X2.eq ?_) (sm_tr s1 s2) z
    exact acc_1 fun x y => ⟨fun p => p.2, fun p => ⟨⟨e, (lg_cmp_eq _ _).mp f, (lg_cmp_eq _ _).mp g⟩, p⟩⟩
  refine lp_inv (fun q => ∃ i h1, i ≤ nW d ∧ q = (nI n, nI t, nI s, u, v, nI i, h1) ∧ XR vm R B h1 d (acc S (plW d n t s u v) i) ∧ smj R h h1) (fun q => nW d - q.2.2.2.2.2.1.toNatClampNeg) ?_ _ ⟨0, h, by omega, rfl, X.eq (acc_0 _ _), sm_rf⟩
  rintro q K ⟨i, h1, hi, rfl, X1, s1⟩ hK
  have next : ∀ h2, XR vm R B h2 d (acc S (plW d n t s u v) (i + 1)) → smj R h h2 → i < nW d → wj_Mod_joinPlace_47 Z post K vm (nI n) (nI t) (nI s) u v (nI i) h2 := by
    intro h2 X2 s2 hi
    rintro y rfl
    refine hK _ ⟨i + 1, h2, by omega, by rw [nI_1], X2, s2⟩ ?_
    dsimp only
    rw [nI_1, jr_cl (by omega), jr_cl (by omega)]; omega
  obtain ⟨C1, D1, -⟩ := id X1
  unfold wb_Mod_joinPlace_3
  dsimp only
  refine ⟨C1.1, ?_⟩
  rw [D1.1.2.1]
  refine pk_le (nW d) i (fun z => second h1 _ (X1.eq (by rw [show i = nW d from by omega])) s1 fun h2 X2 s2 => kk h2 (X2.eq ?_) s2) (fun z => ⟨C1.1, r_isOn hd C1 D1 z hs (fun on => ⟨fun q => absurd q (by decide), fun _ => ⟨C1.1, r_goesThrough hd C1 D1 z (fun th => ⟨fun q => absurd q (by decide), fun _ => ⟨C1.1, ?_⟩⟩) (fun th => ⟨fun _ => next h1 (X1.eq (acc_n fun x y p => th p.1.2.2)) s1 z, fun q => absurd rfl q⟩)⟩⟩) (fun no => ⟨fun _ => next h1 (X1.eq (acc_n fun x y p => no ⟨p.1.2.1, p.1.1.2⟩)) s1 z, fun q => absurd rfl q⟩)⟩)
  · funext x y
    refine propext ⟨fun z => ?_, fun z => ?_⟩
    · rcases z with z | z | z | z
      · exact Or.inl (Or.inl (Or.inl z))
      · exact Or.inl (Or.inl (Or.inr z))
      · exact Or.inl (Or.inr z)
      · exact Or.inr z
    · rcases z with ((z | z) | z) | z
      · exact Or.inl z
      · exact Or.inr (Or.inl z)
      · exact Or.inr (Or.inr (Or.inl z))
      · exact Or.inr (Or.inr (Or.inr z))
  · rw [show (16 : Int32) = nI 16 from rfl, pk_mul, nI_add]
    refine X1.join hn (by omega) fun h2 X2 s2 => next h2 (X2.eq ?_) (sm_tr s1 s2) z
    exact acc_1 fun x y => ⟨fun p => p.2, fun p => ⟨⟨⟨z, on.2⟩, on.1, th⟩, p⟩⟩
/-- the sheet t -/
def shL (d : DS) (t l x y : Nat) : Prop := lSh d l = bas d t ∧ (plc' d (1600 + 16 * l + t) t (bas d t) (lX d l) (lY d l) x y ∨ (x = 1600 + 16 * l + t ∧ y = rnm t (lNm d l)))
def shP (d : DS) (t p x y : Nat) : Prop := pSh d p = bas d t ∧ plc' d (2560 + 16 * p + t) t (bas d t) (pX d p) (pY d p) x y
def shA (d : DS) (t x y : Nat) : Prop := (∃ v, v < nW d ∧ ∃ w, w < v ∧ wpr d t v w x y) ∨ (∃ l, l < nL d ∧ shL d t l x y) ∨ ∃ p, p < nP d ∧ shP d t p x y
theorem r_joinSheet {post : HS → Prop} {t : Nat} (hd : WF d) (X : XR vm R B h d S) (ht : t < nS d) (kk : ∀ h', XR vm R B h' d (fun x y => S x y ∨ shA d t x y) → smj R h h' → post h') : wp_Mod_joinSheet Z post h vm (nI t) := by
  have hS := hd.1.1
  have hW := hd.1.2.1
  have hL := hd.1.2.2.2.1
  have hP := hd.1.2.2.2.2.1
  have bt := (hd.2.1 t ht).1
  obtain ⟨C, D, -⟩ := id X
  refine ⟨C.1, C.rd 803 1 t rfl (by decide) (by show t < 16; omega) ?_⟩
  rintro y rfl
  rw [jr_cl (by omega), (D.2.1 t ht).2]
  refine ⟨C.1, r_joinWires hd X ht fun h0 X0 s0 => ?_⟩
  -- pins
  have third : ∀ h0 S0, XR vm R B h0 d S0 → smj R h h0 → (∀ h', XR vm R B h' d (acc S0 (shP d t) (nP d)) → smj R h h' → post h') → lp (wb_Mod_joinSheet_99 Z post vm) (nI t, nI (bas d t), (0 : Int32), h0) := by
    intro h0 S0 X0 s0 kk
    refine lp_inv (fun q => ∃ i h1, i ≤ nP d ∧ q = (nI t, nI (bas d t), nI i, h1) ∧ XR vm R B h1 d (acc S0 (shP d t) i) ∧ smj R h h1) (fun q => nP d - q.2.2.1.toNatClampNeg) ?_ _ ⟨0, h0, by omega, rfl, X0.eq (acc_0 _ _), s0⟩
    rintro q K ⟨i, h1, hi, rfl, X1, s1⟩ hK
    have next : ∀ h2, XR vm R B h2 d (acc S0 (shP d t) (i + 1)) → smj R h h2 → i < nP d → wj_Mod_joinSheet_151 Z post K vm (nI t) (nI (bas d t)) (nI i) h2 := by
      intro h2 X2 s2 hi
      rintro y rfl
      refine hK _ ⟨i + 1, h2, by omega, by rw [nI_1], X2, s2⟩ ?_
      dsimp only
      rw [nI_1, jr_cl (by omega), jr_cl (by omega)]; omega
    obtain ⟨C1, D1, -⟩ := id X1
    unfold wb_Mod_joinSheet_99
    dsimp only
    refine ⟨C1.1, ?_⟩
    rw [D1.1.2.2.2.2.1]
    refine pk_le (nP d) i (fun z => kk h1 (X1.eq (by rw [show i = nP d from by omega])) s1) (fun z => ⟨C1.1, C1.rd 816 1 i rfl (by decide) (by show i < 60; omega) ?_⟩)
    obtain ⟨l1, l2, l3, l4⟩ := D1.2.2.2.2.2.1.1 i z
    have ls := (hd.2.2.2.2.2.1 i z).1
    rw [jr_cl (by omega), l1, nI_eq (by omega) (by omega)]
    refine ⟨fun e => next h1 (X1.eq (acc_n fun x y p => e p.1)) s1 z, fun e => ?_⟩
    rw [show (2 : Int32) = nI 2 from rfl, pk_mul, show (1 : Int32) = nI 1 from rfl, nI_add, jr_cl (by omega), jr_cl (by omega), show (16 : Int32) = nI 16 from rfl, show (2560 : Int32) = nI 2560 from rfl, pk_mul, nI_add, nI_add]
    refine ⟨C1.1, C1.rd 818 3 (2 * i) rfl (by decide) (by show 2 * i < 120; omega) ⟨C1.1, C1.rd 818 3 (2 * i + 1) rfl (by decide) (by show 2 * i + 1 < 120; omega) ⟨C1.1, ?_⟩⟩⟩
    rw [l3, l4]
    refine r_joinPlace hd X1 (by omega) (by omega) (by omega) fun h2 X2 s2 => next h2 (X2.eq ?_) (sm_tr s1 s2) z
    rw [acc_s]
    funext x y
    exact propext ⟨fun w => w.elim Or.inl fun w => Or.inr w.2, fun w => w.elim Or.inl fun w => Or.inr ⟨e, w⟩⟩
  refine lp_inv (fun q => ∃ i h1, i ≤ nL d ∧ q = (nI t, nI (bas d t), nI i, h1) ∧ XR vm R B h1 d (acc (acc S (fun v x y => ∃ w, w < v ∧ wpr d t v w x y) (nW d)) (shL d t) i) ∧ smj R h h1) (fun q => nL d - q.2.2.1.toNatClampNeg) ?_ _ ⟨0, h0, by omega, rfl, X0.eq (acc_0 _ _), s0⟩
  rintro q K ⟨i, h1, hi, rfl, X1, s1⟩ hK
  have next : ∀ h2, XR vm R B h2 d (acc (acc S (fun v x y => ∃ w, w < v ∧ wpr d t v w x y) (nW d)) (shL d t) (i + 1)) → smj R h h2 → i < nL d → wj_Mod_joinSheet_91 Z post K vm (nI t) (nI (bas d t)) (nI i) h2 := by
    intro h2 X2 s2 hi
    rintro y rfl
    refine hK _ ⟨i + 1, h2, by omega, by rw [nI_1], X2, s2⟩ ?_
    dsimp only
    rw [nI_1, jr_cl (by omega), jr_cl (by omega)]; omega
  obtain ⟨C1, D1, -⟩ := id X1
  unfold wb_Mod_joinSheet_15
  dsimp only
  refine ⟨C1.1, ?_⟩
  rw [D1.1.2.2.2.1]
  refine pk_le (nL d) i (fun z => third h1 _ (X1.eq (by rw [show i = nL d from by omega])) s1 fun h2 X2 s2 => kk h2 (X2.eq ?_) s2) (fun z => ⟨C1.1, C1.rd 812 1 i rfl (by decide) (by show i < 60; omega) ?_⟩)
  · funext x y
    refine propext ⟨fun z => ?_, fun z => ?_⟩
    · rcases z with z | z | z | z
      · exact Or.inl (Or.inl (Or.inl z))
      · exact Or.inl (Or.inl (Or.inr z))
      · exact Or.inl (Or.inr z)
      · exact Or.inr z
    · rcases z with ((z | z) | z) | z
      · exact Or.inl z
      · exact Or.inr (Or.inl z)
      · exact Or.inr (Or.inr (Or.inl z))
      · exact Or.inr (Or.inr (Or.inr z))
  obtain ⟨l1, l2, l3, l4⟩ := D1.2.2.2.2.1 i z
  obtain ⟨ls, -, ln⟩ := hd.2.2.2.2.1 i z
  rw [jr_cl (by omega), l1, nI_eq (by omega) (by omega)]
  refine ⟨fun e => ?_, fun e => next h1 (X1.eq (acc_n fun x y p => e p.1)) s1 z⟩
  rintro y7 rfl
  rw [show (2 : Int32) = nI 2 from rfl, pk_mul, show (1 : Int32) = nI 1 from rfl, nI_add, jr_cl (by omega), jr_cl (by omega), show (16 : Int32) = nI 16 from rfl, show (1600 : Int32) = nI 1600 from rfl, pk_mul, nI_add, nI_add]
  refine ⟨C1.1, C1.rd 814 3 (2 * i) rfl (by decide) (by show 2 * i < 120; omega) ⟨C1.1, C1.rd 814 3 (2 * i + 1) rfl (by decide) (by show 2 * i + 1 < 120; omega) ⟨C1.1, ?_⟩⟩⟩
  rw [l3, l4]
  refine r_joinPlace hd X1 (by omega) (by omega) (by omega) fun h2 X2 s2 => ?_
  obtain ⟨C2, D2, -⟩ := id X2
  refine ⟨C2.1, C2.rd 813 1 i rfl (by decide) (by show i < 60; omega) ⟨C2.1, ?_⟩⟩
  rw [(D2.2.2.2.2.1 i z).2.1]
  refine r_nameNode (by omega) ln ⟨C2.1, X2.join (by omega) (rnm_lt (by omega) ln) fun h3 X3 s3 => next h3 (X3.eq ?_) (sm_tr s1 (sm_tr s2 s3)) z⟩
  rw [acc_s]
  funext x y
  refine propext ⟨fun w => ?_, fun w => ?_⟩
  · rcases w with w | ⟨-, w | w⟩
    · exact Or.inl (Or.inl w)
    · exact Or.inl (Or.inr w)
    · exact Or.inr w
  · rcases w with (w | w) | w
    · exact Or.inl w
    · exact Or.inr ⟨e, Or.inl w⟩
    · exact Or.inr ⟨e, Or.inr w⟩
theorem r_members {post : Int32 → HS → Prop} {b : Nat} (hd : WF d) (C : RS vm R B h) (D : RD vm R h d) (hb : b < nU d) (kk : post (nI (mbs d b)) h) : wp_Mod_members Z post h vm (nI b) := by
  have hU := hd.1.2.2.2.2.2.2
  obtain ⟨l1, l2, l3, l4⟩ := D.2.2.2.2.2.2.2.1 b hb
  obtain ⟨-, -, h3, h4, h5⟩ := hd.2.2.2.2.2.2.2 b hb
  unfold wp_Mod_members
  rw [show (4 : Int32) = nI 4 from rfl, pk_mul, show (3 : Int32) = nI 3 from rfl, show (2 : Int32) = nI 2 from rfl, nI_add, nI_add, jr_cl (by omega), jr_cl (by omega)]
  refine ⟨C.1, C.rd 823 1 (4 * b + 3) rfl (by decide) (by show 4 * b + 3 < 64; omega) ⟨C.1, C.rd 823 1 (4 * b + 2) rfl (by decide) (by show 4 * b + 2 < 64; omega) ?_⟩⟩
  rintro y rfl
  rw [l3, l4]
  unfold mbs at kk
  by_cases z : uTo d b < uFr d b
  · rw [if_pos z] at kk
    have neg : ¬ 0 ≤ nI (uTo d b) - nI (uFr d b) := by
      intro w
      rw [Int32.le_iff_toInt_le, Int32.toInt_sub, nI_toInt (by omega), nI_toInt (by omega), show (0 : Int32).toInt = 0 from rfl] at w
      rw [show ((uTo d b : Int) - (uFr d b : Int)).bmod (2 ^ 32) = (uTo d b : Int) - (uFr d b : Int) from Int.bmod_eq_of_le (by omega) (by omega)] at w
      omega
    refine br_f neg ?_
    rw [show (0 : Int32) - (nI (uTo d b) - nI (uFr d b)) = nI (uFr d b) - nI (uTo d b) from by rw [Int32.sub_eq_add_neg, Int32.neg_sub, Int32.zero_add], pk_sub (by omega), show (1 : Int32) = nI 1 from rfl, nI_add]
    exact kk
  · rw [if_neg z] at kk
    rw [pk_sub (by omega)]
    refine br_t (nI_pos' (by omega)) ?_
    rw [show (1 : Int32) = nI 1 from rfl, nI_add]
    exact kk
theorem r_member {post : Int32 → HS → Prop} {b i : Nat} (hd : WF d) (C : RS vm R B h) (D : RD vm R h d) (hb : b < nU d) (hi : i < mbs d b) (kk : post (nI (mem d b i)) h) : wp_Mod_member Z post h vm (nI b) (nI i) := by
  have hU := hd.1.2.2.2.2.2.2
  obtain ⟨l1, l2, l3, l4⟩ := D.2.2.2.2.2.2.2.1 b hb
  obtain ⟨-, -, h3, h4, h5⟩ := hd.2.2.2.2.2.2.2 b hb
  unfold wp_Mod_member
  rw [show (4 : Int32) = nI 4 from rfl, pk_mul, show (3 : Int32) = nI 3 from rfl, show (2 : Int32) = nI 2 from rfl, nI_add, nI_add, jr_cl (by omega), jr_cl (by omega)]
  refine ⟨C.1, C.rd 823 1 (4 * b + 3) rfl (by decide) (by show 4 * b + 3 < 64; omega) ⟨C.1, C.rd 823 1 (4 * b + 2) rfl (by decide) (by show 4 * b + 2 < 64; omega) ?_⟩⟩
  rw [l3, l4]
  unfold mem at kk
  unfold mbs at hi
  refine pk_le (uFr d b) (uTo d b) (fun z => ⟨C.1, C.rd 823 1 (4 * b + 2) rfl (by decide) (by show 4 * b + 2 < 64; omega) ?_⟩) (fun z => ⟨C.1, C.rd 823 1 (4 * b + 2) rfl (by decide) (by show 4 * b + 2 < 64; omega) ?_⟩)
  · rw [if_neg (by omega)] at kk
    rw [l3, nI_add]; exact kk
  · rw [if_pos (by omega)] at kk hi
    rw [l3, pk_sub (by omega)]; exact kk
end RSH
