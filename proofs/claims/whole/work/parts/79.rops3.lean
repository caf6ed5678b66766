section ROR
variable {Z : Nat → Nat} {vm : Nat} {R : Nat → Nat} {B : Nat → Nat × Nat} {h h' : HS} {d : DS} {ch : Nat → Prop}
theorem r_bus {post : Int32 → HS → Prop} {x1 x2 x3 x4 : Int32} (hd : WF d) (K : KR vm R B h d ch) (kk : ∀ n r s h', o_bus (d, ch) x1 x2 x3 x4 = (n, r, s) → KR vm R B h' s.1 s.2 → gI h' 800 vm = nI n → sm20 B h h' → post r h') : wp_Mod_bus Z post h vm x1 x2 x3 x4 := by
  have hS := hd.1.1
  have hU := hd.1.2.2.2.2.2.2
  have body : ∀ y2 : Int32, ((y2 = 1 ∧ (isN x2 ∧ isN x3 ∧ isN x4)) ∨ (y2 = 0 ∧ ¬ (isN x2 ∧ isN x3 ∧ isN x4))) → wj_Mod_bus_30 Z post vm x1 x2 x3 x4 y2 x1 (some vm) (some vm) h := by
    intro y2 hx
    have bad : ∀ (Q : HS → Prop) (n : Nat), n = 1 ∨ n = 2 ∨ n = 3 → o_bus (d, ch) x1 x2 x3 x4 = (n, 0, (d, ch)) → ∀ h7, h7 = sI h 800 vm (nI n) → gT h7 vm = 24 ∧ ((¬ (gI h7 800 vm) = 0 → (post (0 : Int32) h7)) ∧ ((gI h7 800 vm) = 0 → Q h7)) := by
      intro Q n hn eo h7 e7
      obtain ⟨K7, t7, s7⟩ := K.thr e7
      refine ⟨K7.1.1, fun _ => kk n 0 _ h7 eo K7 t7 s7, fun w => absurd w ?_⟩
      rw [t7, nI_z (by omega)]; omega
    refine ⟨vm, rfl, K.1.1, r_refusal hd K.1 K.2.1 hx (fun n => ⟨vm, rfl, K.1.1, bad _ 1 (by omega) (o_ref1 n)⟩) (fun k q1 q2 q3 => ⟨vm, rfl, K.1.1, bad _ 2 (by omega) (o_ref2 hS q1 q2 q3)⟩) (fun k q1 q2 q3 => ⟨vm, rfl, K.1.1, bad _ 3 (by omega) (o_ref3 q1 q2 q3)⟩) (fun k q1 q2 q3 => ⟨vm, rfl, K.1.1, ?_⟩)⟩
    intro h7 e7
    obtain ⟨K7, t7, s7⟩ := K.thr e7
    clear e7
    have eo : o_bus (d, ch) x1 x2 x3 x4 = cif (nU d = 16 ∨ ∃ k, k < nU d ∧ uSh d k = tn x1 ∧ uNm d k = tn x2 ∧ uFr d k = tn x3 ∧ uTo d k = tn x4) (0, 0, (d, ch)) (0, 1, nx (d, ch) (dBu d (tn x1) (tn x2) (tn x3) (tn x4))) := o_ref0 q1 q2 q3
    have kl := q1.1
    subst q2
    obtain ⟨nm, nl, rfl⟩ := q3.1
    obtain ⟨f, fl, rfl⟩ := q3.2.1
    obtain ⟨t, tl, rfl⟩ := q3.2.2
    rw [tn_nI (n := k) (by omega), tn_nI (n := nm) (by omega), tn_nI (n := f) (by omega), tn_nI (n := t) (by omega)] at eo
    obtain ⟨S7, D7, -⟩ := id K7
    have n7 := D7.1.2.2.2.2.2.2
    refine ⟨S7.1, fun w => absurd t7 w, fun _ => ⟨S7.1, ?_⟩⟩
    rw [n7, show (16 : Int32) = nI 16 from rfl, nI_eq (by omega) (by omega)]
    refine ⟨fun nf => ?_, fun f => kk 0 0 _ h7 (by rw [eo, cif_t (Or.inl f)]) K7 t7 s7⟩
    refine lp_inv (fun q => ∃ i, i ≤ nU d ∧ q = (nI k, nI nm, nI f, nI t, nI i, h7) ∧ ∀ j, j < i → ¬ (uSh d j = k ∧ uNm d j = nm ∧ uFr d j = f ∧ uTo d j = t)) (fun q => nU d - q.2.2.2.2.1.toNatClampNeg) ?_ _ ⟨0, by omega, rfl, fun j hj => absurd hj (Nat.not_lt_zero _)⟩
    rintro q K3 ⟨i, hi, rfl, o⟩ hK
    have next : i < nU d → ¬ (uSh d i = k ∧ uNm d i = nm ∧ uFr d i = f ∧ uTo d i = t) → wj_Mod_bus_127 Z post K3 vm (nI k) (nI nm) (nI f) (nI t) (nI i) h7 := by
      intro z w
      rintro y rfl
      refine hK _ ⟨i + 1, by omega, by rw [nI_1], fun j hj => ?_⟩ ?_
      · by_cases y : j = i
        · subst y; exact w
        · exact o j (by omega)
      · dsimp only
        rw [nI_1, jr_cl (by omega), jr_cl (by omega)]; omega
    unfold wb_Mod_bus_57
    dsimp only
    refine ⟨S7.1, ?_⟩
    rw [n7]
    refine pk_le (nU d) i (fun z => ?_) (fun z => ?_)
    · rw [cif_f (by rintro (w | ⟨j, w1, w2⟩); exact nf w; exact o j (by omega) w2)] at eo
      rw [show (4 : Int32) = nI 4 from rfl, pk_mul]
      refine ⟨S7.1, S7.1, S7.rd 823 1 (4 * nU d) rfl (by decide) (by show 4 * nU d < 64; omega) ?_⟩
      intro g1 e1
      rw [jr_cl (by omega)] at e1
      obtain ⟨S1, s1, I1, c1, a1⟩ := S7.wA (by decide) e1
      clear e1
      refine ⟨S1.1, S1.1, ?_⟩
      rw [I1, n7, pk_mul, show (1 : Int32) = nI 1 from rfl, nI_add]
      refine S1.rd 823 1 (4 * nU d + 1) rfl (by decide) (by show 4 * nU d + 1 < 64; omega) ?_
      intro g2 e2
      rw [jr_cl (by omega)] at e2
      obtain ⟨S2, s2, I2, c2, a2⟩ := S1.wA (by decide) e2
      clear e2
      refine ⟨S2.1, S2.1, ?_⟩
      rw [I2, I1, n7, pk_mul, show (2 : Int32) = nI 2 from rfl, nI_add]
      refine S2.rd 823 1 (4 * nU d + 2) rfl (by decide) (by show 4 * nU d + 2 < 64; omega) ?_
      intro g3 e3
      rw [jr_cl (by omega)] at e3
      obtain ⟨S3, s3, I3, c3, a3⟩ := S2.wA (by decide) e3
      clear e3
      refine ⟨S3.1, S3.1, ?_⟩
      rw [I3, I2, I1, n7, pk_mul, show (3 : Int32) = nI 3 from rfl, nI_add]
      refine S3.rd 823 1 (4 * nU d + 3) rfl (by decide) (by show 4 * nU d + 3 < 64; omega) ?_
      intro g4 e4
      rw [jr_cl (by omega)] at e4
      obtain ⟨S4, s4, I4, c4, a4⟩ := S3.wA (by decide) e4
      clear e4
      refine ⟨S4.1, S4.1, ?_⟩
      intro g6 e6
      rw [I4, I3, I2, I1, n7, nI_add] at e6
      obtain ⟨S6, s6, I6, c6⟩ := S4.wI e6
      clear e6
      have I : ∀ g, gI g6 g vm = if g = 822 then nI (nU d + 1) else gI h7 g vm := fun g => by rw [I6, I4, I3, I2, I1]
      have c16 : ∀ g, g ≠ 823 → rK g ≠ 0 → ce h7 g6 (R g) := fun g h1 h2 => ce_tr (c1 g h1 h2) (ce_tr (c2 g h1 h2) (ce_tr (c3 g h1 h2) (ce_tr (c4 g h1 h2) (c6 g h2))))
      have D6 : RD vm R g6 (dBu d k nm f t) := by
        refine rd_bu k nm f t D7 (fun g _ _ => I g) (fun g h1 h2 h3 h4 => ⟨(c16 g h4 h3).A, (c16 g h4 h3).L⟩) (fun j => ?_)
        rw [(c6 823 (by decide)).A, a4, a3, a2, a1]
      have O6 : OLD vm R g6 d := K7.old (by rw [I, if_neg (by omega)]) (by rw [(c16 827 (by omega) (by decide)).A])
      exact ⟨S6.1, r_anew hd (WF_bu hd q1 nl fl tl (by omega)) S6 D6 O6 fun h9 K9 _ i9 s9 => kk 0 _ _ h9 eo K9 (by rw [i9 800 (by omega) (by omega) (by omega), I, if_neg (by omega)]; exact t7) (sm_tr s7 (sm_tr s1 (sm_tr s2 (sm_tr s3 (sm_tr s4 (sm_tr s6 s9))))))⟩
    · obtain ⟨j1, j2, j3, j4⟩ := D7.2.2.2.2.2.2.2.1 i z
      obtain ⟨w1, w2, w3, w4, w5⟩ := hd.2.2.2.2.2.2.2 i z
      rw [show (4 : Int32) = nI 4 from rfl, pk_mul, show (1 : Int32) = nI 1 from rfl, show (2 : Int32) = nI 2 from rfl, show (3 : Int32) = nI 3 from rfl, nI_add, nI_add, nI_add, jr_cl (by omega), jr_cl (by omega), jr_cl (by omega), jr_cl (by omega)]
      refine ⟨S7.1, S7.rd 823 1 (4 * i) rfl (by decide) (by show 4 * i < 64; omega) ?_⟩
      rw [j1, nI_eq (by omega) (by omega)]
      refine ⟨fun e => next z fun w => e w.1, fun e1 => ⟨S7.1, S7.rd 823 1 (4 * i + 1) rfl (by decide) (by show 4 * i + 1 < 64; omega) ?_⟩⟩
      rw [j2, nI_eq (by omega) (by omega)]
      refine ⟨fun e => next z fun w => e w.2.1, fun e2 => ⟨S7.1, S7.rd 823 1 (4 * i + 2) rfl (by decide) (by show 4 * i + 2 < 64; omega) ?_⟩⟩
      rw [j3, nI_eq (by omega) (by omega)]
      refine ⟨fun e => next z fun w => e w.2.2.1, fun e3 => ⟨S7.1, S7.rd 823 1 (4 * i + 3) rfl (by decide) (by show 4 * i + 3 < 64; omega) ?_⟩⟩
      rw [j4, nI_eq (by omega) (by omega)]
      exact ⟨fun e => next z fun w => e w.2.2.2, fun e4 => kk 0 0 _ h7 (by rw [eo, cif_t (Or.inr ⟨i, z, e1, e2, e3, e4⟩)]) K7 t7 s7⟩
  have no : ¬ (isN x2 ∧ isN x3 ∧ isN x4) → wj_Mod_bus_29 Z post vm x1 x2 x3 x4 x1 (some vm) (some vm) h := fun w => body 0 (Or.inr ⟨rfl, w⟩)
  exact r_isName (fun p1 => ⟨fun q => absurd q (by decide), fun _ => r_isName (fun p2 => ⟨fun q => absurd q (by decide), fun _ => r_isName (fun p3 => ⟨fun q => absurd q (by decide), fun _ => body 1 (Or.inl ⟨rfl, p1, p2, p3⟩)⟩) (fun n => ⟨fun _ => no fun x => n x.2.2, fun q => absurd rfl q⟩)⟩) (fun n => ⟨fun _ => no fun x => n x.2.1, fun q => absurd rfl q⟩)⟩) (fun n => ⟨fun _ => no fun x => n x.1, fun q => absurd rfl q⟩)
theorem r_port {post : Int32 → HS → Prop} {x1 x2 x3 : Int32} (hd : WF d) (K : KR vm R B h d ch) (kk : ∀ n r s h', o_port (d, ch) x1 x2 x3 = (n, r, s) → KR vm R B h' s.1 s.2 → gI h' 800 vm = nI n → sm20 B h h' → post r h') : wp_Mod_port Z post h vm x1 x2 x3 := by
  have hS := hd.1.1
  have hL := hd.1.2.2.2.1
  have hO := hd.1.2.2.2.2.2.1
  obtain ⟨S, D, -⟩ := id K
  have bad : ∀ n : Nat, n = 1 ∨ n = 2 ∨ n = 3 → o_port (d, ch) x1 x2 x3 = (n, 0, (d, ch)) → wj_Mod_port_78 Z post vm x1 x2 x3 (nI n) (some vm) h := by
    intro n hn eo
    refine ⟨vm, rfl, S.1, ?_⟩
    intro h7 e7
    obtain ⟨K7, t7, s7⟩ := K.thr e7
    refine ⟨K7.1.1, fun _ => kk n 0 _ h7 eo K7 t7 s7, fun w => absurd w ?_⟩
    rw [t7, nI_z (by omega)]; omega
  have no1 : ¬ (isS d x1 ∧ ∃ j, j < nL d ∧ x2 = nI j ∧ lSh d j = bas d (tn x1)) → wj_Mod_port_39 Z post vm x1 x2 x3 h := by
    intro n
    exact ⟨fun e => absurd rfl e, fun _ => bad 1 (by omega) (by unfold o_port; rw [cif_f n])⟩
  refine ⟨S.1, r_isSheet hd S D (fun is => ⟨fun q => absurd q (by decide), fun _ => ⟨fun w => no1 fun ⟨_, j, j1, j2, _⟩ => nI_pos (n := j) (by omega) (by rw [← j2]; exact w), fun w => ⟨S.1, ?_⟩⟩⟩) (fun n => ⟨fun _ => no1 fun x => n x.1, fun q => absurd rfl q⟩)⟩
  obtain ⟨s, sl, rfl⟩ := id is
  have et : tn (nI s) = s := tn_nI (by omega)
  obtain ⟨l, l1, rfl⟩ := nI_of w
  rw [et] at no1
  have bs := (hd.2.1 s sl).1
  rw [D.1.2.2.2.1]
  refine pk_le (nL d) l (fun y => no1 fun ⟨_, j, j1, j2, _⟩ => ?_) (fun y => ⟨S.1, S.rd 812 1 l rfl (by decide) (by show l < 60; omega) ⟨S.1, S.rd 803 1 s rfl (by decide) (by show s < 16; omega) ?_⟩⟩)
  · rw [nI_eq (by omega) (by omega)] at j2; omega
  have ls := (hd.2.2.2.2.1 l y).1
  rw [jr_cl (by omega), jr_cl (by omega), (D.2.2.2.2.1 l y).1, (D.2.1 s sl).2, nI_eq (by omega) (by omega)]
  refine ⟨fun e => no1 fun ⟨_, j, j1, j2, j3⟩ => ?_, fun els => ⟨fun _ => ⟨S.1, S.rd 802 1 s rfl (by decide) (by show s < 16; omega) ?_⟩, fun q => absurd q (by decide)⟩⟩
  · rw [nI_eq (by omega) (by omega)] at j2
    subst j2; exact e j3
  have e1 : ∀ a b : OUT, cif (isS d (nI s) ∧ ∃ j, j < nL d ∧ nI l = nI j ∧ lSh d j = bas d s) a b = a := fun a b => cif_t ⟨is, l, y, rfl, els⟩
  rw [jr_cl (by omega), (D.2.1 s sl).1]
  refine ⟨fun pn => r_isName (fun nn => ⟨fun q => absurd q (by decide), fun _ => ⟨vm, rfl, S.1, ?_⟩⟩) (fun n => ⟨fun _ => bad 3 (by omega) (by unfold o_port; rw [et, e1, cif_t pn, cif_f (p := isN x3) n]), fun q => absurd rfl q⟩), fun pn => bad 2 (by omega) (by unfold o_port; rw [et, e1, cif_f (fun x => x pn)])⟩
  obtain ⟨nm, nl, rfl⟩ := id nn
  have eo : o_port (d, ch) (nI s) (nI l) (nI nm) = cif (nO d = 30 ∨ ∃ k, k < nO d ∧ oSh d k = s ∧ oLb d k = l ∧ oNm d k = nm) (0, 0, (d, ch)) (0, 1, nx (d, ch) (dPo d s l nm)) := by
    unfold o_port
    rw [et, tn_nI (n := l) (by omega), tn_nI (n := nm) (by omega), e1, cif_t pn, cif_t (p := isN (nI nm)) nn]
  obtain ⟨p, pl, pe⟩ : ∃ p, p < nS d ∧ par d s = nI p := by
    rcases (hd.2.1 s sl).2.2 with x | x
    · exact absurd x pn
    · exact x
  intro h7 e7
  obtain ⟨K7, t7, s7⟩ := K.thr e7
  clear e7
  obtain ⟨S7, D7, -⟩ := id K7
  have n7 := D7.1.2.2.2.2.2.1
  refine ⟨S7.1, fun w => absurd t7 w, fun _ => ⟨S7.1, ?_⟩⟩
  rw [n7, show (30 : Int32) = nI 30 from rfl, nI_eq (by omega) (by omega)]
  refine ⟨fun nf => ?_, fun f => kk 0 0 _ h7 (by rw [eo, cif_t (Or.inl f)]) K7 t7 s7⟩
  refine lp_inv (fun q => ∃ i, i ≤ nO d ∧ q = (nI s, nI l, nI nm, nI i, h7) ∧ ∀ j, j < i → ¬ (oSh d j = s ∧ oLb d j = l ∧ oNm d j = nm)) (fun q => nO d - q.2.2.2.1.toNatClampNeg) ?_ _ ⟨0, by omega, rfl, fun j hj => absurd hj (Nat.not_lt_zero _)⟩
  rintro q K3 ⟨i, hi, rfl, o⟩ hK
  have next : i < nO d → ¬ (oSh d i = s ∧ oLb d i = l ∧ oNm d i = nm) → wj_Mod_port_156 Z post K3 vm (nI s) (nI l) (nI nm) (nI i) h7 := by
    intro z w
    rintro y rfl
    refine hK _ ⟨i + 1, by omega, by rw [nI_1], fun j hj => ?_⟩ ?_
    · by_cases y : j = i
      · subst y; exact w
      · exact o j (by omega)
    · dsimp only
      rw [nI_1, jr_cl (by omega), jr_cl (by omega)]; omega
  unfold wb_Mod_port_102
  dsimp only
  refine ⟨S7.1, ?_⟩
  rw [n7]
  refine pk_le (nO d) i (fun z => ?_) (fun z => ?_)
  · rw [cif_f (by rintro (w | ⟨j, w1, w2⟩); exact nf w; exact o j (by omega) w2)] at eo
    rw [show (3 : Int32) = nI 3 from rfl, pk_mul]
    refine ⟨S7.1, S7.1, S7.rd 821 1 (3 * nO d) rfl (by decide) (by show 3 * nO d < 90; omega) ?_⟩
    intro g1 e1
    rw [jr_cl (by omega)] at e1
    obtain ⟨S1, s1, I1, c1, a1⟩ := S7.wA (by decide) e1
    clear e1
    refine ⟨S1.1, S1.1, ?_⟩
    rw [I1, n7, pk_mul, show (1 : Int32) = nI 1 from rfl, nI_add]
    refine S1.rd 821 1 (3 * nO d + 1) rfl (by decide) (by show 3 * nO d + 1 < 90; omega) ?_
    intro g2 e2
    rw [jr_cl (by omega)] at e2
    obtain ⟨S2, s2, I2, c2, a2⟩ := S1.wA (by decide) e2
    clear e2
    refine ⟨S2.1, S2.1, ?_⟩
    rw [I2, I1, n7, pk_mul, show (2 : Int32) = nI 2 from rfl, nI_add]
    refine S2.rd 821 1 (3 * nO d + 2) rfl (by decide) (by show 3 * nO d + 2 < 90; omega) ?_
    intro g3 e3
    rw [jr_cl (by omega)] at e3
    obtain ⟨S3, s3, I3, c3, a3⟩ := S2.wA (by decide) e3
    clear e3
    refine ⟨S3.1, S3.1, ?_⟩
    intro g6 e6
    rw [I3, I2, I1, n7, nI_add] at e6
    obtain ⟨S6, s6, I6, c6⟩ := S3.wI e6
    clear e6
    have I : ∀ g, gI g6 g vm = if g = 820 then nI (nO d + 1) else gI h7 g vm := fun g => by rw [I6, I3, I2, I1]
    have c16 : ∀ g, g ≠ 821 → rK g ≠ 0 → ce h7 g6 (R g) := fun g h1 h2 => ce_tr (c1 g h1 h2) (ce_tr (c2 g h1 h2) (ce_tr (c3 g h1 h2) (c6 g h2)))
    have D6 : RD vm R g6 (dPo d s l nm) := by
      refine rd_po s l nm D7 (fun g _ _ => I g) (fun g h1 h2 h3 h4 => ⟨(c16 g h4 h3).A, (c16 g h4 h3).L⟩) (fun j => ?_)
      rw [(c6 821 (by decide)).A, a3, a2, a1]
    have O6 : OLD vm R g6 d := K7.old (by rw [I, if_neg (by omega)]) (by rw [(c16 827 (by omega) (by decide)).A])
    exact ⟨S6.1, r_anew hd (WF_po hd sl y els nl pl pe (by omega)) S6 D6 O6 fun h9 K9 _ i9 s9 => kk 0 _ _ h9 eo K9 (by rw [i9 800 (by omega) (by omega) (by omega), I, if_neg (by omega)]; exact t7) (sm_tr s7 (sm_tr s1 (sm_tr s2 (sm_tr s3 (sm_tr s6 s9)))))⟩
  · obtain ⟨j1, j2, j3⟩ := D7.2.2.2.2.2.2.1 i z
    obtain ⟨w1, w2, w3, w4, w5⟩ := hd.2.2.2.2.2.2.1 i z
    rw [show (3 : Int32) = nI 3 from rfl, pk_mul, show (1 : Int32) = nI 1 from rfl, show (2 : Int32) = nI 2 from rfl, nI_add, nI_add, jr_cl (by omega), jr_cl (by omega), jr_cl (by omega)]
    refine ⟨S7.1, S7.rd 821 1 (3 * i) rfl (by decide) (by show 3 * i < 90; omega) ?_⟩
    rw [j1, nI_eq (by omega) (by omega)]
    refine ⟨fun e => next z fun w => e w.1, fun e1 => ⟨S7.1, S7.rd 821 1 (3 * i + 1) rfl (by decide) (by show 3 * i + 1 < 90; omega) ?_⟩⟩
    rw [j2, nI_eq (by omega) (by omega)]
    refine ⟨fun e => next z fun w => e w.2.1, fun e2 => ⟨S7.1, S7.rd 821 1 (3 * i + 2) rfl (by decide) (by show 3 * i + 2 < 90; omega) ?_⟩⟩
    rw [j3, nI_eq (by omega) (by omega)]
    exact ⟨fun e => next z fun w => e w.2.2, fun e4 => kk 0 0 _ h7 (by rw [eo, cif_t (Or.inr ⟨i, z, e1, e2, e4⟩)]) K7 t7 s7⟩
theorem r_sheet {post : Int32 → HS → Prop} {x1 x2 : Int32} (hd : WF d) (K : KR vm R B h d ch) (kk : ∀ n r s h', o_sheet (d, ch) x1 x2 = (n, r, s) → KR vm R B h' s.1 s.2 → gI h' 800 vm = nI n → sm20 B h h' → post r h') : wp_Mod_sheet Z post h vm x1 x2 := by
  have hS := hd.1.1
  obtain ⟨S, D, -⟩ := id K
  have bad : ∀ n : Nat, n = 1 ∨ n = 2 → o_sheet (d, ch) x1 x2 = (n, 0, (d, ch)) → wj_Mod_sheet_61 Z post vm x1 x2 (nI n) (some vm) h := by
    intro n hn eo
    refine ⟨vm, rfl, S.1, ?_⟩
    intro h7 e7
    obtain ⟨K7, t7, s7⟩ := K.thr e7
    refine ⟨K7.1.1, fun w => absurd w ?_, fun _ => kk n 0 _ h7 eo K7 t7 s7⟩
    rw [t7, nI_z (by omega)]; omega
  have good : (x1 = -1 ∨ isS d x1) → (x2 = -1 ∨ isD d x2) → wj_Mod_sheet_60 Z post vm x1 x2 (some vm) h := by
    intro q1 q2
    have q3 : x2 = -1 ∨ isS d x2 := q2.elim Or.inl fun ⟨s, s1, s2⟩ => Or.inr ⟨s, s1.1, s2⟩
    have eo : o_sheet (d, ch) x1 x2 = cif (nS d = 16) (0, -1, (d, ch)) (0, nI (nS d), nx (d, ch) (dSh d x1 (cif (x2 = -1) (nS d) (tn x2)))) := by
      unfold o_sheet
      rw [cif_t ⟨q1, q3⟩, cif_t q2]
    refine ⟨vm, rfl, S.1, ?_⟩
    intro h7 e7
    obtain ⟨K7, t7, s7⟩ := K.thr e7
    clear e7
    obtain ⟨S7, D7, -⟩ := id K7
    have n7 := D7.1.1
    refine ⟨S7.1, fun _ => ⟨S7.1, ?_⟩, fun w => absurd t7 w⟩
    rw [n7, show (16 : Int32) = nI 16 from rfl, nI_eq (by omega) (by omega)]
    refine ⟨fun nf => ⟨S7.1, S7.1, S7.rd 802 1 (nS d) rfl (by decide) (by show nS d < 16; omega) ?_⟩, fun f => kk 0 (-1) _ h7 (by rw [eo, cif_t f]) K7 t7 s7⟩
    rw [cif_f nf] at eo
    intro g1 e1
    rw [jr_cl (by omega)] at e1
    obtain ⟨S1, s1, I1, c1, a1⟩ := S7.wA (by decide) e1
    clear e1
    have fin : ∀ s, (s = nS d ∨ drw d s) → s = cif (x2 = -1) (nS d) (tn x2) → wj_Mod_sheet_115 Z post vm (nI s) (gI g1 801 vm) (gR g1 803 vm) g1 := by
      intro s hs es
      rw [← es] at eo
      obtain ⟨q1', q2', q3', q4'⟩ := S1.2.2 803 (by decide)
      rw [I1, n7, q1']
      refine ⟨R 803, rfl, q3', by rw [q4']; exact pk_in (nS d) _ (by show nS d < 16; omega) rfl (rN_lt _), ?_⟩
      intro g2 e2
      rw [jr_cl (by omega)] at e2
      obtain ⟨S2, s2, I2, c2, a2⟩ := S1.wA (by decide) e2
      clear e2
      refine ⟨S2.1, S2.1, ?_⟩
      intro g6 e6
      rw [I2, I1, n7, nI_1] at e6
      obtain ⟨S6, s6, I6, c6⟩ := S2.wI e6
      clear e6
      have I : ∀ g, gI g6 g vm = if g = 801 then nI (nS d + 1) else gI h7 g vm := fun g => by rw [I6, I2, I1]
      have D6 : RD vm R g6 (dSh d x1 s) := by
        refine rd_sh x1 s D7 (fun g _ _ => I g) (fun g h1 h2 h3 h4 h5 => ?_) (fun j => ?_) (fun j => ?_)
        · have := ce_tr (c1 g h4 h3) (ce_tr (c2 g h5 h3) (c6 g h3))
          exact ⟨this.A, this.L⟩
        · rw [(c6 802 (by decide)).A, (c2 802 (by omega) (by decide)).A, a1]
        · rw [(c6 803 (by decide)).A, a2, (c1 803 (by omega) (by decide)).A]
      have O6 : OLD vm R g6 d := K7.old (by rw [I, if_neg (by omega)]) (by rw [(c6 827 (by decide)).A, (c2 827 (by omega) (by decide)).A, (c1 827 (by omega) (by decide)).A])
      refine ⟨S6.1, r_anew hd (WF_sh hd (q1.elim Or.inl fun ⟨s, s1, s2⟩ => Or.inr ⟨s, s1, s2⟩) hs (by omega)) S6 D6 O6 fun h9 K9 _ i9 s9 => ⟨K9.1.1, ?_⟩⟩
      rw [K9.2.1.1.1, show nS (dSh d x1 s) = nS d + 1 from by simp [dSh, dN_eN, dL_eL, dI_eI, dL_eN, dI_eN, dN_eL, dI_eL, dN_eI, dL_eI, nS, nW, nJ, nL, nP, nO, nU, bas, wSh, wDr, jSh, lSh, lNm, pSh, pOp, oSh, oLb, oNm, uSh, uNm, uFr, uTo, wX, wY, wX2, wY2, jX, jY, lX, lY, pX, pY, par, pPt, rnk], nI_pred]
      exact kk 0 _ _ h9 eo K9 (by rw [i9 800 (by omega) (by omega) (by omega), I, if_neg (by omega)]; exact t7) (sm_tr s7 (sm_tr s1 (sm_tr s2 (sm_tr s6 s9))))
    refine ⟨S1.1, S1.1, fun ne => ?_, fun e => ⟨S1.1, ?_⟩⟩
    · rcases q2 with y | ⟨s, hs, es⟩
      · exact absurd y ne
      · subst es
        have sl := hs.1
        exact fin s (Or.inr hs) (by rw [cif_f ne, tn_nI (by omega)])
    · have := fin (nS d) (Or.inl rfl) (by rw [cif_t e])
      rw [I1, n7] at this ⊢
      exact this
  have a31 : (x1 = -1 ∨ isS d x1) → (x2 = -1 ∨ isS d x2) → wj_Mod_sheet_26 Z post vm x1 x2 h := by
    intro q1 q2
    refine ⟨fun _ => ⟨fun e => good q1 (Or.inl e), fun ne => ⟨S.1, ?_⟩⟩, fun e => absurd e (by decide)⟩
    rcases q2 with y | ⟨s, sl, es⟩
    · exact absurd y ne
    subst es
    have bs := (hd.2.1 s sl).1
    refine S.rd 803 1 s rfl (by decide) (by show s < 16; omega) ?_
    rw [jr_cl (by omega), (D.2.1 s sl).2, nI_eq (by omega) (by omega)]
    refine ⟨fun e => good q1 (Or.inr ⟨s, ⟨sl, e⟩, rfl⟩), fun e => bad 2 (by omega) ?_⟩
    unfold o_sheet
    rw [cif_t ⟨q1, Or.inr ⟨s, sl, rfl⟩⟩, cif_f]
    rintro (w | ⟨j, j1, j2⟩)
    · exact ne w
    · have j3 : j < nS d := j1.1
      rw [nI_eq (by omega) (by omega)] at j2
      subst j2; exact e j1.2
  have no : ¬ ((x1 = -1 ∨ isS d x1) ∧ (x2 = -1 ∨ isS d x2)) → wj_Mod_sheet_30 Z post vm x1 x2 h := by
    intro n
    exact ⟨fun e => absurd rfl e, fun _ => bad 1 (by omega) (by unfold o_sheet; rw [cif_f n])⟩
  have a13 : (x1 = -1 ∨ isS d x1) → wj_Mod_sheet_13 Z post vm x1 x2 h := by
    intro q1
    refine ⟨fun e => a31 q1 (Or.inl e), fun ne => ⟨S.1, r_isSheet hd S D (fun i => ⟨fun q => absurd q (by decide), fun _ => a31 q1 (Or.inr i)⟩) (fun i => ⟨fun _ => no fun w => w.2.elim ne i, fun q => absurd rfl q⟩)⟩⟩
  exact ⟨fun e => a13 (Or.inl e), fun ne => ⟨S.1, r_isSheet hd S D (fun i => ⟨fun q => absurd q (by decide), fun _ => a13 (Or.inr i)⟩) (fun i => ⟨fun _ => no fun w => w.1.elim ne i, fun q => absurd rfl q⟩)⟩⟩
end ROR
