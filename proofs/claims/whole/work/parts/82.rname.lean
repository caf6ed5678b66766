section RNM
variable {Z : Nat → Nat} {vm : Nat} {R : Nat → Nat} {B : Nat → Nat × Nat} {h h' : HS} {d : DS} {ch : Nat → Prop} {ld : Nat → Nat}
theorem r_hasName {post : Int32 → HS → Prop} {n m : Nat} (hd : WF d) (S : RS vm R B h) (D : RD vm R h d) (N : NR R h ld) (L : LD ld (SR d)) (E : NE vm R h d ld 960) (hn : n < cnt d) (hm : m < 1000) (k1 : hasNm d n m → post 1 h) (k0 : ¬ hasNm d n m → post 0 h) : wp_Mod_hasName Z post h vm (nI n) (nI m) := by
  have hS := hd.1.1
  have hL := hd.1.2.2.2.1
  have c9 : cnt d ≤ 960 := cn_up _ _
  refine lp_inv (fun q => ∃ l, l ≤ nL d ∧ q = (nI n, nI m, nI l, h) ∧ ∀ l' t, l' < l → lNm d l' = m → ¬ inl d n l' t) (fun q => nL d - q.2.2.1.toNatClampNeg) ?_ _ ⟨0, by omega, rfl, fun l' t hl => absurd hl (Nat.not_lt_zero _)⟩
  rintro q K ⟨l, hl, rfl, o⟩ hK
  have next : l < nL d → (∀ t, lNm d l = m → ¬ inl d n l t) → wj_Mod_hasName_83 Z post K vm (nI n) (nI m) (nI l) h := by
    intro z w
    rintro y rfl
    refine hK _ ⟨l + 1, by omega, by rw [nI_1], fun l' t y1 y2 => ?_⟩ ?_
    · by_cases x : l' = l
      · subst x; exact w t y2
      · exact o l' t (by omega) y2
    · dsimp only
      rw [nI_1, jr_cl (by omega), jr_cl (by omega)]; omega
  unfold wb_Mod_hasName_2
  dsimp only
  refine ⟨S.1, ?_⟩
  rw [D.1.2.2.2.1]
  refine pk_le (nL d) l (fun z => k0 fun ⟨l', t, i1, i2⟩ => o l' t (by have := i1.1; omega) i2 i1) (fun z => ⟨S.1, S.rd 813 1 l rfl (by decide) (by show l < 60; omega) ?_⟩)
  obtain ⟨ls, -, ln⟩ := hd.2.2.2.2.1 l z
  obtain ⟨d1, d2, -, -⟩ := D.2.2.2.2.1 l z
  rw [jr_cl (by omega), d2, nI_eq (by omega) (by omega)]
  refine ⟨fun e => ?_, fun e => next z fun t w => absurd w e⟩
  refine lp_inv (fun q => ∃ t, t ≤ nS d ∧ q = (nI n, nI m, nI l, nI t, h) ∧ ∀ t', t' < t → ¬ inl d n l t') (fun q => nS d - q.2.2.2.1.toNatClampNeg) ?_ _ ⟨0, by omega, rfl, fun t' ht => absurd ht (Nat.not_lt_zero _)⟩
  rintro q K2 ⟨t, ht, rfl, o2⟩ hK2
  have next2 : t < nS d → ¬ inl d n l t → wj_Mod_hasName_77 Z post K K2 vm (nI n) (nI m) (nI l) (nI t) h := by
    intro y w
    rintro y rfl
    refine hK2 _ ⟨t + 1, by omega, by rw [nI_1], fun t' y1 => ?_⟩ ?_
    · by_cases x : t' = t
      · subst x; exact w
      · exact o2 t' (by omega)
    · dsimp only
      rw [nI_1, jr_cl (by omega), jr_cl (by omega)]; omega
  unfold wb_Mod_hasName_26
  dsimp only
  refine ⟨S.1, ?_⟩
  rw [D.1.1]
  refine pk_le (nS d) t (fun y => next z fun t' _ w => o2 t' (by have := w.2.1; omega) w) (fun y => ⟨S.1, S.rd 803 1 t rfl (by decide) (by show t < 16; omega) ⟨S.1, S.rd 812 1 l rfl (by decide) (by show l < 60; omega) ?_⟩⟩)
  have bt := (hd.2.1 t y).1
  rw [jr_cl (by omega), jr_cl (by omega), (D.2.1 t y).2, d1, nI_eq (by omega) (by omega)]
  refine ⟨fun w => next2 y fun x => w x.2.2.1.symm, fun w => ⟨S.1, S.1, ?_⟩⟩
  rw [show (16 : Int32) = nI 16 from rfl, show (1600 : Int32) = nI 1600 from rfl, pk_mul, nI_add, nI_add]
  have lk := L.1 (1600 + 16 * l + t)
  have lk' : ld (1600 + 16 * l + t) < 19520 := by omega
  refine r_leader S N (by omega) (S.rd 826 1 (ld (1600 + 16 * l + t)) rfl (by decide) lk' ?_)
  rw [jr_cl (by omega)]
  obtain ⟨e1, e2⟩ := E.2.2 _ lk'
  have er : rnd t (60 + l) = 1600 + 16 * l + t := rnd_l t (by omega)
  have iff : gA h (R 826) (ld (1600 + 16 * l + t)) = nI n ↔ inl d n l t := by
    constructor
    · intro g
      refine Classical.byContradiction fun no => ?_
      by_cases ex : ∃ k, vR d k ∧ ld (1600 + 16 * l + t) = ld (2560 + k)
      · obtain ⟨k, v, ek⟩ := ex
        have nk := nn_lt hd v
        rw [e1 k (vR_lt hd v) v ek, nI_eq (by omega) (by omega)] at g
        exact no ⟨z, y, w.symm, k, v, g, by rw [er]; exact (L.iff _ _).mp ek⟩
      · rw [e2 fun k _ v x => ex ⟨k, v, x⟩] at g
        exact absurd g.symm (nI_m1 (by omega))
    · rintro ⟨-, -, -, k, v, g, x⟩
      rw [e1 k (vR_lt hd v) v ((L.iff _ _).mpr (by rw [← er]; exact x)), g]
  rw [iff]
  exact ⟨fun x => next2 y x, fun x => k1 ⟨l, t, x, e⟩⟩
theorem r_nameOf {post : Int32 → HS → Prop} {n : Nat} (hd : WF d) (S : RS vm R B h) (D : RD vm R h d) (N : NR R h ld) (L : LD ld (SR d)) (E : NE vm R h d ld 960) (hn : n < cnt d) (kk : ∀ r, NameR d n r → post r h) : wp_Mod_nameOf Z post h vm (nI n) := by
  have c9 : cnt d ≤ 960 := cn_up _ _
  obtain ⟨k, kl, kf, kn, kb⟩ := net_first hd hn
  have rk := D.2.2.2.2.2.2.2.2
  -- no name: the least pin
  have second : ∀ x2, ((x2 = -1 ∧ ∀ m, ¬ hasNm d n m) ∨ ∃ b, b < 1000 ∧ x2 = nI b ∧ BestOf d n b) → lp (wb_Mod_nameOf_50 Z post vm) (nI n, x2, (0 : Int32), h) := by
    intro x2 o
    refine lp_inv (fun q => ∃ i, i ≤ k ∧ q = (nI n, x2, nI i, h)) (fun q => k - q.2.2.1.toNatClampNeg) ?_ _ ⟨0, by omega, rfl⟩
    rintro q K ⟨i, hi, rfl⟩ hK
    unfold wb_Mod_nameOf_50
    dsimp only
    rcases o with ⟨o1, o2⟩ | ⟨b, b1, b2, b3⟩
    · rw [o1]
      refine ⟨fun e => absurd rfl e, fun _ => ⟨S.1, S.rd 827 1 i rfl (by decide) (by show i < 960; omega) ?_⟩⟩
      obtain ⟨g1, g2⟩ := E.get (K := i) (by omega)
      rw [jr_cl (by omega)]
      by_cases z : i = k
      · subst z
        rw [g1 kf.1, kn]
        refine ⟨fun _ => ⟨fun e => absurd rfl e, fun _ => ⟨by decide, ?_⟩⟩, fun e => absurd rfl e⟩
        rw [show (16 : Int32) = nI 16 from rfl, pk_div (by omega) (by omega) (by omega)]
        exact kk _ (Or.inr ⟨o2, i, kf, kn, rfl⟩)
      · have ne : ¬ gA h (R 827) i = nI n := by
          by_cases v : vR d i
          · have := nn_lt hd v
            rw [g1 v, nI_eq (by omega) (by omega)]
            exact kb i (by omega) v
          · rw [g2 v]; exact fun e => nI_m1 (n := n) (by omega) e.symm
        refine ⟨fun e => absurd e ne, fun _ => ?_⟩
        rintro y rfl
        refine hK _ ⟨i + 1, by omega, by rw [nI_1, o1]⟩ ?_
        dsimp only
        rw [nI_1, jr_cl (by omega), jr_cl (by omega)]; omega
    · rw [b2]
      refine ⟨fun _ => ⟨fun _ => kk _ (Or.inl ⟨b, b1, rfl, b3⟩), fun e => absurd e (nI_m1 (by omega))⟩, fun e => absurd e (nI_m1 (by omega))⟩
  refine lp_inv (fun q => ∃ i x2, i ≤ 1000 ∧ q = (nI n, x2, nI i, h) ∧ ((x2 = -1 ∧ ∀ m, m < i → ¬ hasNm d n m) ∨ ∃ b, b < i ∧ x2 = nI b ∧ hasNm d n b ∧ ∀ m, m < i → hasNm d n m → rnk d m ≤ rnk d b ∧ (rnk d m = rnk d b → b ≤ m))) (fun q => 1000 - q.2.2.1.toNatClampNeg) ?_ _ ⟨0, -1, by omega, rfl, Or.inl ⟨rfl, fun m hm => absurd hm (Nat.not_lt_zero _)⟩⟩
  rintro q K ⟨i, x2, hi, rfl, o⟩ hK
  have next : ∀ y2, i < 1000 → ((y2 = -1 ∧ ∀ m, m < i + 1 → ¬ hasNm d n m) ∨ ∃ b, b < i + 1 ∧ y2 = nI b ∧ hasNm d n b ∧ ∀ m, m < i + 1 → hasNm d n m → rnk d m ≤ rnk d b ∧ (rnk d m = rnk d b → b ≤ m)) → wj_Mod_nameOf_42 Z post K vm (nI n) y2 (nI i) h := by
    intro y2 z w
    rintro y rfl
    refine hK _ ⟨i + 1, y2, by omega, by rw [nI_1], w⟩ ?_
    dsimp only
    rw [nI_1, jr_cl (by omega), jr_cl (by omega)]; omega
  unfold wb_Mod_nameOf_4
  dsimp only
  refine pk_le 1000 i (fun z => second x2 ?_) (fun z => ?_)
  · rcases o with ⟨o1, o2⟩ | ⟨b, b1, b2, b3, b4⟩
    · exact Or.inl ⟨o1, fun m hm => o2 m (by have := (hasNm_lt hd hm).1; omega) hm⟩
    · exact Or.inr ⟨b, by omega, b2, b3, fun m hm => b4 m (by have := (hasNm_lt hd hm).1; omega) hm⟩
  rcases o with ⟨o1, o2⟩ | ⟨b, b1, b2, b3, b4⟩
  · rw [o1]
    refine br_t rfl ⟨S.1, r_hasName hd S D N L E hn z (fun w => ⟨fun q => absurd q (by decide), fun _ => next _ z (Or.inr ⟨i, by omega, rfl, w, fun m hm hw => ?_⟩)⟩) (fun w => ⟨fun _ => next _ z (Or.inl ⟨rfl, fun m hm hw => ?_⟩), fun q => absurd rfl q⟩)⟩
    · by_cases x : m = i
      · subst x; exact ⟨Int32.le_refl _, fun _ => Nat.le_refl _⟩
      · exact absurd hw (o2 m (by omega))
    · by_cases x : m = i
      · subst x; exact w hw
      · exact o2 m (by omega) hw
  · rw [b2]
    refine br_f (nI_m1 (by omega)) ⟨S.1, S.rd 824 1 i rfl (by decide) z ⟨S.1, S.rd 824 1 b rfl (by decide) (by show b < 1000; omega) ?_⟩⟩
    rw [jr_cl (by omega), jr_cl (by omega), rk i z, rk b (by omega)]
    refine ⟨fun w => next _ z (Or.inr ⟨b, by omega, rfl, b3, fun m hm hw => ?_⟩), fun w => ⟨S.1, r_hasName hd S D N L E hn z (fun v => ⟨fun q => absurd q (by decide), fun _ => next _ z (Or.inr ⟨i, by omega, rfl, v, fun m hm hw => ?_⟩)⟩) (fun v => ⟨fun _ => next _ z (Or.inr ⟨b, by omega, rfl, b3, fun m hm hw => ?_⟩), fun q => absurd rfl q⟩)⟩⟩
    · by_cases x : m = i
      · subst x; exact ⟨w, fun _ => by omega⟩
      · exact b4 m (by omega) hw
    · by_cases x : m = i
      · subst x; exact ⟨Int32.le_refl _, fun _ => Nat.le_refl _⟩
      · obtain ⟨v1, v2⟩ := b4 m (by omega) hw
        rw [Int32.le_iff_toInt_le] at w v1
        refine ⟨by rw [Int32.le_iff_toInt_le]; omega, fun e => ?_⟩
        rw [e] at v1; omega
    · by_cases x : m = i
      · subst x; exact absurd hw v
      · exact b4 m (by omega) hw
theorem KR.act (K : KR vm R B h d ch) (hn : 0 < cnt d) : ∃ ld, NR R h ld ∧ LD ld (SR d) ∧ NE vm R h d ld 960 := by
  obtain ⟨S, D, -, -, O⟩ := K
  rcases O with o | ⟨o1, ld, o2, o3, o4⟩
  · exfalso
    obtain ⟨k, k1, k2, k3⟩ := cn_ex (P := fst d) (N := 960) hn
    have := k2.1.1
    rw [o.2.2.1] at this
    exact Nat.not_lt_zero _ this
  · exact ⟨ld, o2, o3, o4⟩
theorem r_name {post : Int32 → HS → Prop} {x1 : Int32} (hd : WF d) (K : KR vm R B h d ch) (k0 : (¬ ∃ n, n < cnt d ∧ x1 = nI n) → ∀ h', KR vm R B h' d ch → gI h' 800 vm = 1 → sm20 B h h' → post 0 h') (k1 : ∀ n r h', n < cnt d → x1 = nI n → NameR d n r → KR vm R B h' d ch → gI h' 800 vm = 0 → sm20 B h h' → post r h') : wp_Mod_name Z post h vm x1 := by
  have c9 : cnt d ≤ 960 := cn_up _ _
  obtain ⟨S, D, n0, -⟩ := id K
  have bad : (¬ ∃ n, n < cnt d ∧ x1 = nI n) → wj_Mod_name_17 Z post vm x1 (some vm) h := by
    intro n
    refine ⟨vm, rfl, S.1, ?_⟩
    intro h7 e7
    obtain ⟨K7, t7, s7⟩ := K.thr e7
    exact ⟨K7.1.1, fun _ => k0 n h7 K7 t7 s7, fun w => absurd w (by rw [t7]; decide)⟩
  refine ⟨fun w => bad fun ⟨n, a1, a2⟩ => nI_pos (n := n) (by omega) (by rw [← a2]; exact w), fun w => ⟨S.1, ?_⟩⟩
  obtain ⟨n, n1, rfl⟩ := nI_of w
  rw [n0]
  refine pk_le (cnt d) n (fun y => bad fun ⟨m, a1, a2⟩ => ?_) (fun y => ⟨vm, rfl, S.1, ?_⟩)
  · rw [nI_eq (by omega) (by omega)] at a2; omega
  intro h7 e7
  obtain ⟨K7, t7, s7⟩ := K.thr e7
  obtain ⟨ld, a1, a2, a3⟩ := K7.act (by omega)
  exact ⟨K7.1.1, fun w => absurd t7 w, fun _ => ⟨K7.1.1, r_nameOf hd K7.1 K7.2.1 a1 a2 a3 y fun r hr => k1 n r h7 y rfl hr K7 t7 s7⟩⟩
theorem r_isBare {post : Int32 → HS → Prop} {l : Nat} (hd : WF d) (S : RS vm R B h) (D : RD vm R h d) (hl : l < nL d) (k1 : bare d l → post 1 h) (k0 : ¬ bare d l → post 0 h) : wp_Mod_isBare Z post h vm (nI l) := by
  have hW := hd.1.2.1
  have hP := hd.1.2.2.2.2.1
  have hL := hd.1.2.2.2.1
  have hS := hd.1.1
  obtain ⟨ls, -, ln⟩ := hd.2.2.2.2.1 l hl
  obtain ⟨d1, d2, d3, d4⟩ := D.2.2.2.2.1 l hl
  unfold wp_Mod_isBare
  rw [show (2 : Int32) = nI 2 from rfl, pk_mul, show (1 : Int32) = nI 1 from rfl, nI_add, jr_cl (by omega), jr_cl (by omega), jr_cl (by omega)]
  refine ⟨S.1, S.rd 814 3 (2 * l) rfl (by decide) (by show 2 * l < 120; omega) ?_⟩
  rintro y4 rfl
  refine ⟨S.1, S.rd 814 3 (2 * l + 1) rfl (by decide) (by show 2 * l + 1 < 120; omega) ?_⟩
  rintro y8 rfl
  refine ⟨S.1, S.rd 812 1 l rfl (by decide) (by show l < 60; omega) ?_⟩
  rintro y12 rfl
  rw [d3, d4, d1]
  -- pins
  have second : (∀ w, ali d w → wSh d w = lSh d l → ¬ thr d w (lX d l) (lY d l)) → lp (wb_Mod_isBare_75 Z post vm) (lX d l, lY d l, nI (lSh d l), (0 : Int32), h) := by
    intro no
    refine lp_inv (fun q => ∃ i, i ≤ nP d ∧ q = (lX d l, lY d l, nI (lSh d l), nI i, h) ∧ ∀ p, p < i → ¬ (pSh d p = lSh d l ∧ pX d p = lX d l ∧ pY d p = lY d l)) (fun q => nP d - q.2.2.2.1.toNatClampNeg) ?_ _ ⟨0, by omega, rfl, fun j hj => absurd hj (Nat.not_lt_zero _)⟩
    rintro q K ⟨i, hi, rfl, o⟩ hK
    have next : i < nP d → ¬ (pSh d i = lSh d l ∧ pX d i = lX d l ∧ pY d i = lY d l) → wj_Mod_isBare_129 Z post K vm (lX d l) (lY d l) (nI (lSh d l)) (nI i) h := by
      intro z w
      rintro y rfl
      refine hK _ ⟨i + 1, by omega, by rw [nI_1], fun j hj => ?_⟩ ?_
      · by_cases y : j = i
        · subst y; exact w
        · exact o j (by omega)
      · dsimp only
        rw [nI_1, jr_cl (by omega), jr_cl (by omega)]; omega
    unfold wb_Mod_isBare_75
    dsimp only
    refine ⟨S.1, ?_⟩
    rw [D.1.2.2.2.2.1]
    refine pk_le (nP d) i (fun z => k1 ⟨no, fun p hp => o p (by omega)⟩) (fun z => ⟨S.1, S.rd 816 1 i rfl (by decide) (by show i < 60; omega) ?_⟩)
    obtain ⟨l1, l2, l3, l4⟩ := D.2.2.2.2.2.1.1 i z
    have ps := (hd.2.2.2.2.2.1 i z).1
    rw [jr_cl (by omega), l1, nI_eq (by omega) (by omega)]
    refine ⟨fun e => next z fun w => e w.1, fun e => ?_⟩
    rw [show (2 : Int32) = nI 2 from rfl, pk_mul, show (1 : Int32) = nI 1 from rfl, nI_add, jr_cl (by omega), jr_cl (by omega)]
    refine ⟨S.1, S.rd 818 3 (2 * i) rfl (by decide) (by show 2 * i < 120; omega) ?_⟩
    rw [l3]
    refine ⟨fun f => next z fun w => f ((lg_cmp_eq _ _).mpr w.2.1), fun f => ⟨S.1, S.rd 818 3 (2 * i + 1) rfl (by decide) (by show 2 * i + 1 < 120; omega) ?_⟩⟩
    rw [l4]
    exact ⟨fun g => next z fun w => g ((lg_cmp_eq _ _).mpr w.2.2), fun g => k0 fun b => b.2 i z ⟨e, (lg_cmp_eq _ _).mp f, (lg_cmp_eq _ _).mp g⟩⟩
  refine lp_inv (fun q => ∃ i, i ≤ nW d ∧ q = (lX d l, lY d l, nI (lSh d l), nI i, h) ∧ ∀ w, w < i → ¬ ((wSh d w = lSh d l ∧ wDr d w = 0) ∧ thr d w (lX d l) (lY d l))) (fun q => nW d - q.2.2.2.1.toNatClampNeg) ?_ _ ⟨0, by omega, rfl, fun j hj => absurd hj (Nat.not_lt_zero _)⟩
  rintro q K ⟨i, hi, rfl, o⟩ hK
  have next : i < nW d → ¬ ((wSh d i = lSh d l ∧ wDr d i = 0) ∧ thr d i (lX d l) (lY d l)) → wj_Mod_isBare_66 Z post K vm (lX d l) (lY d l) (nI (lSh d l)) (nI i) h := by
    intro z w
    rintro y rfl
    refine hK _ ⟨i + 1, by omega, by rw [nI_1], fun j hj => ?_⟩ ?_
    · by_cases y : j = i
      · subst y; exact w
      · exact o j (by omega)
    · dsimp only
      rw [nI_1, jr_cl (by omega), jr_cl (by omega)]; omega
  unfold wb_Mod_isBare_32
  dsimp only
  refine ⟨S.1, ?_⟩
  rw [D.1.2.1]
  exact pk_le (nW d) i (fun z => second fun w a1 a2 a3 => o w (by have := a1.1; omega) ⟨⟨a2, a1.2⟩, a3⟩) (fun z => ⟨S.1, r_isOn hd S D z (by omega) (fun on => ⟨fun q => absurd q (by decide), fun _ => ⟨S.1, r_goesThrough hd S D z (fun th => ⟨fun q => absurd q (by decide), fun _ => k0 fun b => b.1 i ⟨z, on.2⟩ on.1 th⟩) (fun th => ⟨fun _ => next z fun w => th w.2, fun q => absurd rfl q⟩)⟩⟩) (fun no => ⟨fun _ => next z fun w => no w.1, fun q => absurd rfl q⟩)⟩)
theorem r_isJoined {post : Int32 → HS → Prop} {p : Nat} (hd : WF d) (S : RS vm R B h) (E : ∀ k, k < 960 → (vR d k → gA h (R 827) k = nI (nn d k)) ∧ (¬ vR d k → gA h (R 827) k = -1)) (hp : p < nP d) (k1 : joi d p → post 1 h) (k0 : ¬ joi d p → post 0 h) : wp_Mod_isJoined Z post h vm (nI p) := by
  have hP := hd.1.2.2.2.2.1
  unfold wp_Mod_isJoined
  rintro y rfl
  rw [show (16 : Int32) = nI 16 from rfl, pk_mul]
  refine lp_inv (fun q => ∃ k, 16 * p ≤ k ∧ k ≤ 16 * p + 16 ∧ q = (nI p, nI k, h) ∧ ∀ k' j, 16 * p ≤ k' → k' < k → vR d k' → vR d j → j ≠ k' → ¬ nn d j = nn d k') (fun q => 16 * p + 16 - q.2.1.toNatClampNeg) ?_ _ ⟨16 * p, by omega, by omega, rfl, fun k' j a b => by omega⟩
  rintro q K ⟨k, a1, a2, rfl, o⟩ hK
  have next : k < 16 * p + 16 → (∀ j, vR d k → vR d j → j ≠ k → ¬ nn d j = nn d k) → wj_Mod_isJoined_63 Z post K vm (nI p) (nI k) h := by
    intro z w
    rintro y rfl
    refine hK _ ⟨k + 1, by omega, by omega, by rw [nI_1], fun k' j b1 b2 b3 b4 b5 => ?_⟩ ?_
    · by_cases x : k' = k
      · subst x; exact w j b3 b4 b5
      · exact o k' j b1 (by omega) b3 b4 b5
    · dsimp only
      rw [nI_1, jr_cl (by omega), jr_cl (by omega)]; omega
  unfold wb_Mod_isJoined_5
  dsimp only
  rw [show (16 : Int32) = nI 16 from rfl, pk_mul, nI_add]
  refine pk_le (16 * p + 16) k (fun z => k0 fun ⟨k', j, b1, b2, b3, b4, b5⟩ => o k' j (by omega) (by omega) b1 b3 b4 b5) (fun z => ?_)
  obtain ⟨g1, g2⟩ := E k (by omega)
  refine lp_inv (fun q => ∃ j, j ≤ 960 ∧ q = (nI p, nI k, nI j, h) ∧ ∀ j', j' < j → vR d k → vR d j' → j' ≠ k → ¬ nn d j' = nn d k) (fun q => 960 - q.2.2.1.toNatClampNeg) ?_ _ ⟨0, by omega, rfl, fun j' hj => absurd hj (Nat.not_lt_zero _)⟩
  rintro q K2 ⟨j, hj, rfl, o2⟩ hK2
  have next2 : j < 960 → (vR d k → vR d j → j ≠ k → ¬ nn d j = nn d k) → wj_Mod_isJoined_57 Z post K K2 vm (nI p) (nI k) (nI j) h := by
    intro z w
    rintro y rfl
    refine hK2 _ ⟨j + 1, by omega, by rw [nI_1], fun j' b1 b2 b3 b4 => ?_⟩ ?_
    · by_cases x : j' = j
      · subst x; exact w b2 b3 b4
      · exact o2 j' (by omega) b2 b3 b4
    · dsimp only
      rw [nI_1, jr_cl (by omega), jr_cl (by omega)]; omega
  unfold wb_Mod_isJoined_18
  dsimp only
  refine pk_le 960 j (fun y => next z fun j' b1 b2 b3 => o2 j' (by have := vR_lt hd b2; omega) b1 b2 b3) (fun y => ⟨S.1, S.rd 827 1 k rfl (by decide) (by show k < 960; omega) ?_⟩)
  rw [jr_cl (by omega)]
  by_cases v : vR d k
  · have nk := nn_lt hd v
    rw [g1 v]
    refine ⟨fun e => absurd e (nI_m1 (by omega)), fun _ => ?_⟩
    rw [nI_eq (by omega) (by omega)]
    refine ⟨fun e => next2 y fun _ _ w => absurd e w, fun e => ⟨S.1, S.rd 827 1 j rfl (by decide) y ⟨S.1, S.rd 827 1 k rfl (by decide) (by show k < 960; omega) ?_⟩⟩⟩
    obtain ⟨f1, f2⟩ := E j y
    rw [jr_cl (by omega), g1 v]
    by_cases u : vR d j
    · have nj := nn_lt hd u
      rw [f1 u, nI_eq (by omega) (by omega)]
      exact ⟨fun w => next2 y fun _ _ _ => w, fun w => k1 ⟨k, j, v, by omega, u, e, w⟩⟩
    · rw [f2 u]
      exact ⟨fun _ => next2 y fun _ w _ => absurd w u, fun w => absurd w.symm (nI_m1 (by omega))⟩
  · rw [g2 v]
    exact ⟨fun _ => next z fun j' w => absurd w v, fun w => absurd rfl w⟩
end RNM
