/-! ALL JOINED ANEW; JOINED MORE -/
def XX (Z : Nat → Nat) (vx : Nat) (A : Nat → Nat → Nat) (B : Nat → Nat × Nat) (h : HS) (d : DS) (S U : Nat → Nat → Prop) : Prop := CD Z vx A B h d ∧ (∃ lt, TJ vx A B h lt ∧ LD lt S) ∧ ∃ lj, JJ vx A B h (nS d) lj ∧ LD lj U
def UA (d : DS) (lt : Nat → Nat) (x y : Nat) : Prop := (∃ t, t < nS d ∧ PT d lt t x y) ∨ SB d x y ∨ SO d x y
section ANW
variable {Z : Nat → Nat} {vx : Nat} {A : Nat → Nat → Nat} {B : Nat → Nat × Nat} {h : HS} {d : DS} {U : Nat → Nat → Prop} {lt : Nat → Nat}
theorem SB_JB {x y : Nat} : SB d x y ↔ ∃ t, t < nS d ∧ ∃ b, b < nU d ∧ uSh d b = bas d t ∧ JB d b t x y := by
  constructor
  · rintro ⟨b, t, i, h1, h2, h3, h4, h5, h6⟩
    exact ⟨t, h2, b, h1, h3.symm, i, h4, h5, h6⟩
  · rintro ⟨t, h2, b, h1, h3, i, h4, h5, h6⟩
    exact ⟨b, t, i, h1, h2, h3.symm, h4, h5, h6⟩
theorem PT_SP (hd : WF d) (hT : LD lt (TT d)) {t x y : Nat} (ht : t < nS d) (h : PT d lt t x y) : SP d x y := by
  obtain ⟨a, ha, h1, rfl, rfl⟩ := h
  have e := hT.2.1 a
  have i := ld_sp hd hT ha
  have := (EG_touch hd ht (by rw [tSh_sp hd ha]; exact h1) e).2
  rw [tSh_sp hd i] at this
  exact ⟨t, a, lt a, ht, ha, i, h1, this, e, rfl, rfl⟩
theorem SP_PT (hT : LD lt (TT d)) {t a b : Nat} {V : Nat → Nat → Prop} (hV : ∀ x y, PT d lt t x y → V x y) (ha : isp d a) (hb : isp d b) (h1 : sSh d a = bas d t) (h2 : sSh d b = bas d t) (e : EG (TT d) a b) : EG V (cnd d t a) (cnd d t b) := by
  have e1 := (hT.iff a b).mpr e
  have g1 : EG V (cnd d t a) (cnd d t (lt a)) := EG.of (hV _ _ ⟨a, ha, h1, rfl, rfl⟩)
  have g2 : EG V (cnd d t b) (cnd d t (lt b)) := EG.of (hV _ _ ⟨b, hb, h2, rfl, rfl⟩)
  rw [e1] at g1
  exact g1.tr g2.sy
theorem UA_SC (hd : WF d) (hT : LD lt (TT d)) : (∀ x y, UA d lt x y → EG (SC d) x y) ∧ ∀ x y, SC d x y → EG (UA d lt) x y := by
  constructor
  · rintro x y (⟨t, ht, h⟩ | h | h)
    · exact EG.of (Or.inl (PT_SP hd hT ht h))
    · exact EG.of (Or.inr (Or.inl h))
    · exact EG.of (Or.inr (Or.inr h))
  · rintro x y (⟨t, a, b, ht, ha, hb, h1, h2, e, rfl, rfl⟩ | h | h)
    · exact SP_PT hT (fun x y p => Or.inl ⟨t, ht, p⟩) ha hb h1 h2 e
    · exact EG.of (Or.inr (Or.inl h))
    · exact EG.of (Or.inr (Or.inr h))
theorem sp_joinBusesOn {post : HS → Prop} (hd : WF d) (X : XJ Z vx A B h d lt U) {t : Nat} (ht : t < nS d) (kk : ∀ h', XJ Z vx A B h' d lt (fun x y => U x y ∨ ∃ b, b < nU d ∧ uSh d b = bas d t ∧ JB d b t x y) → sm2 B h h' → post h') : wp_NJ_joinBusesOn Z post h vx (some (A 3 t)) := by
  have hS := hd.1.1
  have hU := hd.1.2.2.2.2.2.2
  unfold wp_NJ_joinBusesOn
  refine lp_inv (fun q => ∃ i, q.1 = some (A 3 t) ∧ q.2.1 = nI i ∧ i ≤ nU d ∧ XJ Z vx A B q.2.2 d lt (acc U (fun b x y => uSh d b = bas d t ∧ JB d b t x y) i) ∧ sm2 B h q.2.2) (fun q => nU d - q.2.1.toNatClampNeg) ?_ _ ⟨0, rfl, rfl, by omega, X.eq (acc_0 _ _), sm_rf⟩
  rintro ⟨x1, x2, h1⟩ K ⟨i, e1, e2, hi, X1, s1⟩ hK
  dsimp only at e1 e2 X1 s1
  subst e1 e2
  have C := X1.1
  have next : ∀ h2, XJ Z vx A B h2 d lt (acc U (fun b x y => uSh d b = bas d t ∧ JB d b t x y) (i + 1)) → sm2 B h h2 → i < nU d → wj_NJ_joinBusesOn_43 Z post K vx (some (A 3 t)) (nI i) h2 := by
    intro h2 X2 s2 hi
    rintro y rfl
    refine hK _ ⟨i + 1, rfl, nI_1 i, by omega, X2, s2⟩ ?_
    dsimp only
    rw [nI_1, jr_cl (by omega), jr_cl (by omega)]; omega
  unfold wb_NJ_joinBusesOn_2
  dsimp only
  refine ⟨C.x, A 1 7, C.p (by omega), C.lT (by omega), sp_size C.bu (pk_le (nU d) i (fun z => kk h1 (X1.eq ?_) s1) (fun z => ⟨C.x, A 1 7, C.p (by omega), C.lT (by omega), sp_get C.bu z ?_⟩))⟩
  · rw [show i = nU d from by omega]; rfl
  have bt := (hd.2.1 t ht).1
  have ub := hd.2.2.2.2.2.2.2 i z
  obtain ⟨o1, o2, o3, o4, o5, o6⟩ := C.S ht
  obtain ⟨p1, p2, p3, p4, p5⟩ := C.U z
  refine ⟨cst p1, A 9 i, rfl, p1, A 3 t, rfl, o1, ?_⟩
  rw [p2, o4]
  refine ⟨fun c => next h1 (X1.eq (acc_n fun x y p => c (by rw [p.1]))) s1 z, fun c => ⟨A 3 t, rfl, o1, C.x, ?_⟩⟩
  rw [o2]
  refine sp_joinBus hd X1 z ht fun h2 X2 s2 => next h2 (X2.eq ?_) (sm_tr s1 s2) z
  have c' : uSh d i = bas d t := (nI_eq (by omega) (by omega)).mp c
  rw [acc_s]
  funext x y
  refine propext ⟨fun z => ?_, fun z => ?_⟩
  · rcases z with z | z
    · exact Or.inl z
    · exact Or.inr z.2
  · rcases z with z | z
    · exact Or.inl z
    · exact Or.inr ⟨c', z⟩
theorem sp_joinAnew {post : HS → Prop} {S : Nat → Nat → Prop} (hd : WF d) (X : XX Z vx A B h d S U) (kk : ∀ h', XX Z vx A B h' d (TT d) (SC d) → sm2 B h h' → post h') : wp_NJ_joinAnew Z post h vx := by
  have hS := hd.1.1
  have hO := hd.1.2.2.2.2.2.1
  obtain ⟨C, ⟨lt0, T0, L0⟩, lj0, J0, M0⟩ := X
  refine ⟨C.x, sp_touchAnew hd ⟨C, lt0, T0, L0⟩ fun h1 X1 s1 => ?_⟩
  obtain ⟨C1, lt, T1, L1⟩ := X1.mo (T := TT d) (fun x y p => EG.of (TA_TT p)) (fun x y p => TT_TA p)
  have J1 : JJ vx A B h1 (nS d) lj0 := J0.frame fun a ha => s1 a (by intro z; omega)
  have s1' : sm2 B h h1 := sm_of s1 fun a ha => ha.1
  have hlt : ∀ a, isp d a → isp d (lt a) := fun a ha => ld_sp hd L1 ha
  refine ⟨C1.x, A 13 0, J1.1, J1.2.2.1.1, sp_scatter J1.2.2 fun h2 J2 s => ?_⟩
  have s2 : sm (fun a => (B a).1 ≠ 14) h1 h2 := sm_of s fun a ha r hr e => by
    rw [e, J1.2.1.2.2.2 r hr] at ha; exact ha rfl
  have X2 : XJ Z vx A B h2 d lt (fun _ _ => False) := ⟨C1.frame fun a ha => s2 a (by intro z; omega), T1.frame fun a ha => s2 a (by intro z; omega), _, ⟨by rw [(s2 vx (by show (B vx).1 ≠ 14; rw [J1.2.1.1]; decide)).R]; exact J1.1, J1.2.1, J2⟩, LD.id⟩
  have s2' : sm2 B h h2 := sm_tr s1' (sm_of s2 fun a ha => ha.2)
  -- ports
  have ports : ∀ (U : Nat → Nat → Prop) (g : HS), XJ Z vx A B g d lt U → sm2 B h g → (acc U (fun k x y => x = cnm (oSh d k) (lNm d (oLb d k)) ∧ y = cnm (pr d (oSh d k)) (oNm d k)) (nO d)) = UA d lt → lp (wb_NJ_joinAnew_62 Z post vx) ((0 : Int32), g) := by
    intro U g Xg sg eg
    refine lp_inv (fun q => ∃ i, q.1 = nI i ∧ i ≤ nO d ∧ XJ Z vx A B q.2 d lt (acc U (fun k x y => x = cnm (oSh d k) (lNm d (oLb d k)) ∧ y = cnm (pr d (oSh d k)) (oNm d k)) i) ∧ sm2 B h q.2) (fun q => nO d - q.1.toNatClampNeg) ?_ _ ⟨0, rfl, by omega, Xg.eq (acc_0 _ _), sg⟩
    rintro ⟨x1, h1⟩ K ⟨i, e1, hi, X1, s1⟩ hK
    dsimp only at e1 X1 s1
    subst e1
    have C := X1.1
    unfold wb_NJ_joinAnew_62
    dsimp only
    refine ⟨C.x, A 1 6, C.p (by omega), C.lT (by omega), sp_size C.po (pk_le (nO d) i (fun z => ?_) (fun z => ?_))⟩
    · have X3 : XJ Z vx A B h1 d lt (UA d lt) := X1.eq (by rw [show i = nO d from by omega]; exact eg.symm)
      obtain ⟨C3, T3, lj, J3, L3⟩ := X3.mo (UA_SC hd L1).1 (UA_SC hd L1).2
      exact kk h1 ⟨C3, ⟨lt, T3, L1⟩, lj, J3, L3⟩ s1
    · obtain ⟨p1, p2, p3, p4, p5, p6⟩ := C.O z
      obtain ⟨g1, g2, g3, g4, -⟩ := hd.2.2.2.2.2.2.1 i z
      have hp := pr_ok hd z
      have hn := (hd.2.2.2.2.1 _ g2).2.2
      refine ⟨C.x, C.x, A 1 6, C.p (by omega), C.lT (by omega), sp_get C.po z ⟨cst p1, A 8 i, rfl, p1, C.x, A 1 6, C.p (by omega), C.lT (by omega), sp_get C.po z ⟨cst p1, A 8 i, rfl, p1, A 13 0, X1.up.1, X1.up.2, ?_⟩⟩⟩
      rw [p5, p6]
      refine X1.join (vl_nm g1 hS hn) (vl_nm hp.1 hS g4) fun h2 X2 s2 => ?_
      rintro y rfl
      refine hK _ ⟨i + 1, nI_1 i, by omega, X2.eq (acc_1 fun x y => Iff.rfl), sm_tr s1 s2⟩ ?_
      dsimp only
      rw [nI_1, jr_cl (by omega), jr_cl (by omega)]; omega
  refine lp_inv (fun q => ∃ i, q.1 = nI i ∧ i ≤ nS d ∧ XJ Z vx A B q.2 d lt (acc (fun _ _ => False) (fun t x y => PT d lt t x y ∨ ∃ b, b < nU d ∧ uSh d b = bas d t ∧ JB d b t x y) i) ∧ sm2 B h q.2) (fun q => nS d - q.1.toNatClampNeg) ?_ _ ⟨0, rfl, by omega, X2.eq (acc_0 _ _), s2'⟩
  rintro ⟨x1, h1⟩ K ⟨i, e1, hi, X1, s1⟩ hK
  dsimp only at e1 X1 s1
  subst e1
  have C := X1.1
  unfold wb_NJ_joinAnew_13
  dsimp only
  refine ⟨C.x, A 1 0, C.p (by omega), C.lT (by omega), sp_size C.sh (pk_le (nS d) i (fun z => ports _ h1 X1 s1 ?_) (fun z => ⟨C.x, A 1 0, C.p (by omega), C.lT (by omega), sp_get C.sh z ⟨cst (C.S z).1, C.x, sp_spreadOn hd hlt X1 z fun h2 X2 s2 => ⟨X2.1.x, A 1 0, X2.1.p (by omega), X2.1.lT (by omega), sp_get X2.1.sh z ⟨cst (X2.1.S z).1, X2.1.x, sp_joinBusesOn hd X2 z fun h3 X3 s3 => ?_⟩⟩⟩⟩))⟩
  · rw [show i = nS d from by omega]
    funext x y
    unfold UA
    rw [SB_JB]
    refine propext ⟨fun z => ?_, fun z => ?_⟩
    · rcases z with (z | ⟨t, ht, z | z⟩) | ⟨k, hk, z⟩
      · exact z.elim
      · exact Or.inl ⟨t, ht, z⟩
      · exact Or.inr (Or.inl ⟨t, ht, z⟩)
      · exact Or.inr (Or.inr ⟨k, hk, z⟩)
    · rcases z with ⟨t, ht, z⟩ | ⟨t, ht, z⟩ | ⟨k, hk, z⟩
      · exact Or.inl (Or.inr ⟨t, ht, Or.inl z⟩)
      · exact Or.inl (Or.inr ⟨t, ht, Or.inr z⟩)
      · exact Or.inr ⟨k, hk, z⟩
  · rintro y rfl
    refine hK _ ⟨i + 1, nI_1 i, by omega, X3.eq ?_, sm_tr s1 (sm_tr s2 s3)⟩ ?_
    · rw [acc_s]
      funext x y
      simp only [or_assoc]
    · dsimp only
      rw [nI_1, jr_cl (by omega), jr_cl (by omega)]; omega
end ANW
/-! one thing more: the same pairs, up to what is joined anyway -/
section INC
variable {d e : DS} {lt : Nat → Nat}
theorem cp_same {t : Nat} (h : ∀ s, s ≤ t → bas e s = bas d s) : cp e t = cp d t := by
  unfold cp
  rw [h t (Nat.le_refl _)]
  exact cn_congr fun k hk => by rw [h k (by omega)]
theorem mbs_same {b : Nat} (h1 : uFr e b = uFr d b) (h2 : uTo e b = uTo d b) : mbs e b = mbs d b ∧ ∀ i, mem e b i = mem d b i := by
  unfold mbs mem
  rw [h1, h2]
  exact ⟨rfl, fun _ => rfl⟩
theorem lgb_same {b c : Nat} (h : ∀ x, x ≤ b → uNm e x = uNm d x ∧ uSh e x = uSh d x ∧ mbs e x = mbs d x) : lgb e b c ↔ lgb d b c := by
  have m : ∀ x, x < b → (meets e x b ↔ meets d x b) := fun x hx => by
    unfold meets
    rw [(h x (by omega)).1, (h x (by omega)).2.1, (h b (Nat.le_refl _)).1, (h b (Nat.le_refl _)).2.1]
  unfold lgb
  constructor
  · rintro ⟨h1, h2, h3, h4⟩
    refine ⟨h1, (m c h1).mp h2, fun x hx q => ?_, fun x hx q => ?_⟩
    · rw [← (h x (by omega)).2.2, ← (h c (by omega)).2.2]; exact h3 x hx ((m x hx).mpr q)
    · rw [← (h x (by omega)).2.2, ← (h c (by omega)).2.2]; exact h4 x hx ((m x (by omega)).mpr q)
  · rintro ⟨h1, h2, h3, h4⟩
    refine ⟨h1, (m c h1).mpr h2, fun x hx q => ?_, fun x hx q => ?_⟩
    · rw [(h x (by omega)).2.2, (h c (by omega)).2.2]; exact h3 x hx ((m x hx).mp q)
    · rw [(h x (by omega)).2.2, (h c (by omega)).2.2]; exact h4 x hx ((m x (by omega)).mp q)
theorem JB_same {b t x y : Nat} (h : ∀ x, x ≤ b → uNm e x = uNm d x ∧ uSh e x = uSh d x ∧ uFr e x = uFr d x ∧ uTo e x = uTo d x) : JB e b t x y ↔ JB d b t x y := by
  have k : ∀ x, x ≤ b → mbs e x = mbs d x ∧ ∀ i, mem e x i = mem d x i := fun x hx => mbs_same (h x hx).2.2.1 (h x hx).2.2.2
  have l : ∀ c, lgb e b c ↔ lgb d b c := fun c => lgb_same fun x hx => ⟨(h x hx).1, (h x hx).2.1, (k x hx).1⟩
  have hb := h b (Nat.le_refl _)
  unfold JB
  rw [(k b (Nat.le_refl _)).1, hb.1, hb.2.1]
  constructor
  · rintro ⟨i, h1, h2, h3⟩
    rw [(k b (Nat.le_refl _)).2] at h2 h3
    refine ⟨i, h1, h2, ?_⟩
    rcases h3 with h3 | ⟨g1, c, g2, g3, g4⟩
    · exact Or.inl h3
    · have g2' := (l c).mp g2
      have hc := g2'.1
      rw [(k c (by omega)).1] at g3
      rw [(k c (by omega)).2, (h c (by omega)).2.1] at g4
      exact Or.inr ⟨g1, c, g2', g3, g4⟩
  · rintro ⟨i, h1, h2, h3⟩
    refine ⟨i, h1, by rw [(k b (Nat.le_refl _)).2]; exact h2, ?_⟩
    rw [(k b (Nat.le_refl _)).2]
    rcases h3 with h3 | ⟨g1, c, g2, g3, g4⟩
    · exact Or.inl h3
    · have hc := g2.1
      exact Or.inr ⟨g1, c, (l c).mpr g2, by rw [(k c (by omega)).1]; exact g3, by rw [(k c (by omega)).2, (h c (by omega)).2.1]; exact g4⟩
/-- the same sheets, buses and ports, names of labels that are there -/
def sb (d e : DS) : Prop := nS e = nS d ∧ (∀ t, t < nS d → bas e t = bas d t ∧ par e t = par d t) ∧ (nU e = nU d ∧ ∀ b, b < nU d → uNm e b = uNm d b ∧ uSh e b = uSh d b ∧ uFr e b = uFr d b ∧ uTo e b = uTo d b) ∧ (nO e = nO d ∧ ∀ k, k < nO d → oSh e k = oSh d k ∧ oLb e k = oLb d k ∧ oNm e k = oNm d k) ∧ (nL d ≤ nL e ∧ ∀ l, l < nL d → lNm e l = lNm d l)
theorem cnd_same (b : sb d e) (hd : WF d) {t a : Nat} (ht : t < nS d) (ha : isp d a) : cnd e t a = cnd d t a := by
  have h5 := hd.1.2.2.2.2.1
  unfold cnd
  rw [cp_same (fun s hs => (b.2.1 s (by omega)).1)]
  by_cases z : a < 60
  · simp only [z, if_true]
  · simp only [z, if_false]
    rw [b.2.2.2.2.2 (a - 60) (by rcases ha with w | w <;> omega)]
theorem SB_same (b : sb d e) {x y : Nat} : SB e x y ↔ SB d x y := by
  rw [SB_JB, SB_JB, b.1, b.2.2.1.1]
  constructor
  · rintro ⟨t, ht, c, hc, h1, h2⟩
    rw [(b.2.2.1.2 c hc).2.1, (b.2.1 t ht).1] at h1
    exact ⟨t, ht, c, hc, h1, (JB_same fun x hx => b.2.2.1.2 x (by omega)).mp h2⟩
  · rintro ⟨t, ht, c, hc, h1, h2⟩
    refine ⟨t, ht, c, hc, ?_, (JB_same fun x hx => b.2.2.1.2 x (by omega)).mpr h2⟩
    rw [(b.2.2.1.2 c hc).2.1, (b.2.1 t ht).1]; exact h1
theorem SO_same (b : sb d e) (hd : WF d) {x y : Nat} : SO e x y ↔ SO d x y := by
  have key : ∀ k, k < nO d → cnm (oSh e k) (lNm e (oLb e k)) = cnm (oSh d k) (lNm d (oLb d k)) ∧ cnm (pr e (oSh e k)) (oNm e k) = cnm (pr d (oSh d k)) (oNm d k) := by
    intro k hk
    obtain ⟨h1, h2, h3⟩ := b.2.2.2.1.2 k hk
    obtain ⟨g1, g2, -⟩ := hd.2.2.2.2.2.2.1 k hk
    rw [h1, h2, h3, b.2.2.2.2.2 _ g2]
    unfold pr
    rw [(b.2.1 _ g1).2]
    exact ⟨rfl, rfl⟩
  unfold SO
  rw [b.2.2.2.1.1]
  constructor
  · rintro ⟨k, hk, h1, h2⟩; exact ⟨k, hk, by rw [h1, (key k hk).1], by rw [h2, (key k hk).2]⟩
  · rintro ⟨k, hk, h1, h2⟩; exact ⟨k, hk, by rw [h1, (key k hk).1], by rw [h2, (key k hk).2]⟩
/-- something more on the drawn sheet s -/
theorem over_SC (E : ext d e) (b : sb d e) (hd : WF d) (he : WF e) (hT : LD lt (TT e)) {s : Nat} (h1 : ∀ x y, TT e x y → tSh e x ≠ s → TT d x y) (h2 : ∀ a, isp e a → sSh e a ≠ s → isp d a) :
    (∀ x y, (SC d x y ∨ ∃ t, t < nS e ∧ bas e t = s ∧ PT e lt t x y) → EG (SC e) x y) ∧ ∀ x y, SC e x y → EG (fun x y => SC d x y ∨ ∃ t, t < nS e ∧ bas e t = s ∧ PT e lt t x y) x y := by
  constructor
  · rintro x y ((⟨t, a, c, ht, ha, hc, g1, g2, g3, rfl, rfl⟩ | h | h) | ⟨t, ht, -, h⟩)
    · have ea := ext_sp E hd ha
      have ec := ext_sp E hd hc
      rw [← cnd_same b hd ht ha, ← cnd_same b hd ht hc]
      refine EG.of (Or.inl ⟨t, a, c, by rw [b.1]; exact ht, ext_isp E ha, ext_isp E hc, ?_, ?_, g3.mo fun x y p => EG.of (ext_TT E hd p), rfl, rfl⟩)
      · rw [ea.1, (b.2.1 t ht).1, g1]
      · rw [ec.1, (b.2.1 t ht).1, g2]
    · exact EG.of (Or.inr (Or.inl ((SB_same b).mpr h)))
    · exact EG.of (Or.inr (Or.inr ((SO_same b hd).mpr h)))
    · exact EG.of (Or.inl (PT_SP he hT ht h))
  · rintro x y (⟨t, a, c, ht, ha, hc, g1, g2, g3, rfl, rfl⟩ | h | h)
    · by_cases z : bas e t = s
      · exact SP_PT hT (fun x y p => Or.inr ⟨t, ht, z, p⟩) ha hc g1 g2 g3
      · have ht' : t < nS d := by rw [← b.1]; exact ht
        have ia := h2 a ha (by rw [g1]; exact z)
        have ic := h2 c hc (by rw [g2]; exact z)
        have ea := ext_sp E hd ia
        have ec := ext_sp E hd ic
        rw [cnd_same b hd ht' ia, cnd_same b hd ht' ic]
        refine EG.of (Or.inl (Or.inl ⟨t, a, c, ht', ia, ic, by rw [← ea.1, g1, (b.2.1 t ht').1], by rw [← ec.1, g2, (b.2.1 t ht').1], fun g hg => ?_, rfl, rfl⟩))
        have := g3 (fun x => if tSh e x = s then 0 else g x + 1) fun x y hxy => by
          have q := TT.sheet he hxy
          by_cases w : tSh e x = s
          · rw [if_pos w, if_pos (by omega)]
          · rw [if_neg w, if_neg (by omega), hg _ _ (h1 x y hxy w)]
        have ta : tSh e a ≠ s := by rw [tSh_sp he ha, g1]; exact z
        have tc : tSh e c ≠ s := by rw [tSh_sp he hc, g2]; exact z
        rw [if_neg ta, if_neg tc] at this
        omega
    · exact EG.of (Or.inl (Or.inr (Or.inl ((SB_same b).mp h))))
    · exact EG.of (Or.inl (Or.inr (Or.inr ((SO_same b hd).mp h))))
end INC
