def BPR (d : DS) (b t c u x y : Nat) : Prop := alike d b t c u ∧ ∃ i, i < mbs d b ∧ i < mbs d c ∧ x = rnm t (mem d b i) ∧ y = rnm u (mem d c i)
def PPR (d : DS) (k x y : Nat) : Prop := x = 1600 + 16 * oLb d k + oSh d k ∧ y = rnm (pr d (oSh d k)) (oNm d k)
def tAl (d : DS) (t x y : Nat) : Prop := shA d t x y ∨ ∃ u, u < nS d ∧ ∃ b, b < nU d ∧ ∃ c, c < nU d ∧ BPR d b t c u x y
def RAl (d : DS) (x y : Nat) : Prop := (∃ t, t < nS d ∧ tAl d t x y) ∨ ∃ k, k < nO d ∧ PPR d k x y
section RAL
variable {Z : Nat → Nat} {vm : Nat} {R : Nat → Nat} {B : Nat → Nat × Nat} {h h' : HS} {d : DS} {S : Nat → Nat → Prop}
theorem r_joinBuses {post : HS → Prop} {b t c u : Nat} (hd : WF d) (X : XR vm R B h d S) (hb : b < nU d) (hc : c < nU d) (ht : t < nS d) (hu : u < nS d) (kk : ∀ h', XR vm R B h' d (fun x y => S x y ∨ BPR d b t c u x y) → smj R h h' → post h') : wp_Mod_joinBuses Z post h vm (nI b) (nI t) (nI c) (nI u) := by
  have hS := hd.1.1
  have hU := hd.1.2.2.2.2.2.2
  have bt := (hd.2.1 t ht).1
  have bu := (hd.2.1 u hu).1
  obtain ⟨C, D, -⟩ := id X
  obtain ⟨b1, b2, b3, b4, b5⟩ := hd.2.2.2.2.2.2.2 b hb
  obtain ⟨c1, c2, c3, c4, c5⟩ := hd.2.2.2.2.2.2.2 c hc
  obtain ⟨l1, l2, l3, l4⟩ := D.2.2.2.2.2.2.2.1 b hb
  obtain ⟨m1, m2, m3, m4⟩ := D.2.2.2.2.2.2.2.1 c hc
  have mb := mbs_le hd hb
  have no : ¬ alike d b t c u → wj_Mod_joinBuses_84 Z post vm (nI b) (nI t) (nI c) (nI u) h := by
    intro n
    refine lp_inv (fun q => q = (nI b, nI t, nI c, nI u, (0 : Int32), (0 : Int32), h)) (fun _ => 0) ?_ _ rfl
    rintro q K rfl hK
    unfold wb_Mod_joinBuses_90
    dsimp only
    refine br_t rfl (kk h (X.eq ?_) sm_rf)
    funext x y
    exact propext ⟨fun w => w.elim id fun w => absurd w.1 n, Or.inl⟩
  have yes : alike d b t c u → wj_Mod_joinBuses_80 Z post vm (nI b) (nI t) (nI c) (nI u) h := by
    intro al
    refine lp_inv (fun q => ∃ i h1, i ≤ mbs d b ∧ i ≤ mbs d c ∧ q = (nI b, nI t, nI c, nI u, (1 : Int32), nI i, h1) ∧ XR vm R B h1 d (acc S (fun i x y => x = rnm t (mem d b i) ∧ y = rnm u (mem d c i)) i) ∧ smj R h h1) (fun q => mbs d b - q.2.2.2.2.2.1.toNatClampNeg) ?_ _ ⟨0, h, by omega, by omega, rfl, X.eq (acc_0 _ _), sm_rf⟩
    rintro q K ⟨i, h1, hi1, hi2, rfl, X1, s1⟩ hK
    obtain ⟨C1, D1, -⟩ := id X1
    have fin : (mbs d b ≤ i ∨ mbs d c ≤ i) → post h1 := fun st => kk h1 (X1.eq (by
      funext x y
      refine propext ⟨fun w => ?_, fun w => ?_⟩
      · rcases w with w | ⟨-, j, j1, j2, j3⟩
        · exact Or.inl w
        · exact Or.inr ⟨j, by omega, j3⟩
      · rcases w with w | ⟨j, j1, j2⟩
        · exact Or.inl w
        · exact Or.inr ⟨al, j, by omega, by omega, j2⟩)) s1
    have mc := mbs_le hd hc
    unfold wb_Mod_joinBuses_90
    dsimp only
    refine br_f (by decide) ⟨C1.1, r_members hd C1 D1 hb (pk_le (mbs d b) i (fun z => fin (Or.inl z)) (fun z1 => ⟨C1.1, r_members hd C1 D1 hc (pk_le (mbs d c) i (fun z => fin (Or.inr z)) (fun z2 => ⟨C1.1, r_member hd C1 D1 hb z1 ⟨C1.1, r_nameNode (by omega) (mem_lt hd hb z1) ⟨C1.1, r_member hd C1 D1 hc z2 ⟨C1.1, r_nameNode (by omega) (mem_lt hd hc z2) ⟨C1.1, X1.join (rnm_lt (by omega) (mem_lt hd hb z1)) (rnm_lt (by omega) (mem_lt hd hc z2)) fun h2 X2 s2 => ?_⟩⟩⟩⟩⟩))⟩))⟩
    rintro y rfl
    refine hK _ ⟨i + 1, h2, by omega, by omega, by rw [nI_1], X2.eq (acc_1 fun x y => Iff.rfl), sm_tr s1 s2⟩ ?_
    dsimp only
    rw [nI_1, jr_cl (by omega), jr_cl (by omega)]; omega
  unfold wp_Mod_joinBuses
  rw [show (4 : Int32) = nI 4 from rfl, pk_mul, pk_mul, show (1 : Int32) = nI 1 from rfl, nI_add, nI_add, jr_cl (by omega), jr_cl (by omega), jr_cl (by omega), jr_cl (by omega), jr_cl (by omega), jr_cl (by omega)]
  refine ⟨C.1, C.rd 803 1 t rfl (by decide) (by show t < 16; omega) ⟨C.1, C.rd 823 1 (4 * b) rfl (by decide) (by show 4 * b < 64; omega) ?_⟩⟩
  rw [(D.2.1 t ht).2, l1, nI_eq (by omega) (by omega)]
  refine ⟨fun e => no fun q => e q.1, fun e1 => ⟨C.1, C.rd 803 1 u rfl (by decide) (by show u < 16; omega) ⟨C.1, C.rd 823 1 (4 * c) rfl (by decide) (by show 4 * c < 64; omega) ?_⟩⟩⟩
  rw [(D.2.1 u hu).2, m1, nI_eq (by omega) (by omega)]
  refine ⟨fun e => no fun q => e q.2.1, fun e2 => ⟨C.1, C.rd 823 1 (4 * b + 1) rfl (by decide) (by show 4 * b + 1 < 64; omega) ⟨C.1, C.rd 823 1 (4 * c + 1) rfl (by decide) (by show 4 * c + 1 < 64; omega) ?_⟩⟩⟩
  rw [l2, m2, nI_eq (by omega) (by omega)]
  refine ⟨fun e => no fun q => e q.2.2.1, fun e3 => ?_⟩
  rw [nI_eq (by omega) (by omega)]
  refine ⟨fun e => yes ⟨e1, e2, e3, Or.inl e⟩, fun e => ⟨C.1, C.rd 823 1 (4 * b + 1) rfl (by decide) (by show 4 * b + 1 < 64; omega) ?_⟩⟩
  rw [l2]
  refine pk_lt (uNm d b) 900 (fun z => no fun q => ?_) (fun z => yes ⟨e1, e2, e3, Or.inr z⟩)
  rcases q.2.2.2 with w | w
  · exact e w
  · omega
theorem r_joinAll {post : HS → Prop} (hd : WF d) (C : RS vm R B h) (D : RD vm R h d) (kk : ∀ h', XR vm R B h' d (RAl d) → smj R h h' → post h') : wp_Mod_joinAll Z post h vm := by
  have hS := hd.1.1
  have hL := hd.1.2.2.2.1
  have hO := hd.1.2.2.2.2.2.1
  have hU := hd.1.2.2.2.2.2.2
  -- ports
  have ports : ∀ h0 S0, XR vm R B h0 d S0 → smj R h h0 → (∀ h', XR vm R B h' d (acc S0 (PPR d) (nO d)) → smj R h h' → post h') → lp (wb_Mod_joinAll_104 Z post vm) ((0 : Int32), h0) := by
    intro h0 S0 X0 s0 kk
    refine lp_inv (fun q => ∃ i h1, i ≤ nO d ∧ q = (nI i, h1) ∧ XR vm R B h1 d (acc S0 (PPR d) i) ∧ smj R h h1) (fun q => nO d - q.1.toNatClampNeg) ?_ _ ⟨0, h0, by omega, rfl, X0.eq (acc_0 _ _), s0⟩
    rintro q K ⟨i, h1, hi, rfl, X1, s1⟩ hK
    obtain ⟨C1, D1, -⟩ := id X1
    unfold wb_Mod_joinAll_104
    dsimp only
    refine ⟨C1.1, ?_⟩
    rw [D1.1.2.2.2.2.2.1]
    refine pk_le (nO d) i (fun z => kk h1 (X1.eq (by rw [show i = nO d from by omega])) s1) (fun z => ?_)
    obtain ⟨l1, l2, l3⟩ := D1.2.2.2.2.2.2.1 i z
    obtain ⟨o1, o2, o3, o4, p, p1, p2⟩ := hd.2.2.2.2.2.2.1 i z
    rw [show (3 : Int32) = nI 3 from rfl, pk_mul, show (1 : Int32) = nI 1 from rfl, show (2 : Int32) = nI 2 from rfl, nI_add, nI_add, jr_cl (by omega), jr_cl (by omega), jr_cl (by omega)]
    refine ⟨C1.1, C1.rd 821 1 (3 * i) rfl (by decide) (by show 3 * i < 90; omega) ?_⟩
    rintro y rfl
    rw [l1]
    refine ⟨C1.1, C1.rd 821 1 (3 * i + 1) rfl (by decide) (by show 3 * i + 1 < 90; omega) ⟨C1.1, C1.rd 802 1 (oSh d i) rfl (by decide) (by show oSh d i < 16; omega) ⟨C1.1, C1.rd 821 1 (3 * i + 2) rfl (by decide) (by show 3 * i + 2 < 90; omega) ⟨C1.1, ?_⟩⟩⟩⟩
    rw [jr_cl (by omega), (D1.2.1 _ o1).1, p2, l3, l2]
    refine r_nameNode (by omega) o4 ⟨C1.1, ?_⟩
    rw [show (16 : Int32) = nI 16 from rfl, show (1600 : Int32) = nI 1600 from rfl, pk_mul, nI_add, nI_add, nI_add]
    refine X1.join (by omega) (rnm_lt (by omega) o4) fun h2 X2 s2 => ?_
    rintro y rfl
    refine hK _ ⟨i + 1, h2, by omega, rfl, X2.eq (acc_1 fun x y => ?_), sm_tr s1 s2⟩ ?_
    · unfold PPR
      rw [show pr d (oSh d i) = p from by unfold pr; rw [p2]; exact jr_cl (by omega)]
    · dsimp only
      rw [jr_cl (by omega), jr_cl (by omega)]; omega
  -- sheets
  have sheets : ∀ h0, XR vm R B h0 d (fun _ _ => False) → smj R h h0 → lp (wb_Mod_joinAll_24 Z post vm) ((0 : Int32), h0) := by
    intro h0 X0 s0
    refine lp_inv (fun q => ∃ t h1, t ≤ nS d ∧ q = (nI t, h1) ∧ XR vm R B h1 d (acc (fun _ _ => False) (tAl d) t) ∧ smj R h h1) (fun q => nS d - q.1.toNatClampNeg) ?_ _ ⟨0, h0, by omega, rfl, X0.eq (acc_0 _ _), s0⟩
    rintro q K ⟨t, h1, ht, rfl, X1, s1⟩ hK
    obtain ⟨C1, D1, -⟩ := id X1
    unfold wb_Mod_joinAll_24
    dsimp only
    refine ⟨C1.1, ?_⟩
    rw [D1.1.1]
    refine pk_le (nS d) t (fun z => ports h1 _ X1 s1 fun h2 X2 s2 => kk h2 (X2.eq ?_) s2) (fun z => ⟨C1.1, r_joinSheet hd X1 z fun h2 X2 s2 => ?_⟩)
    · rw [show t = nS d from by omega]
      funext x y
      refine propext ⟨fun w => ?_, fun w => ?_⟩
      · rcases w with w | w
        · exact Or.inl (Or.inr w)
        · exact Or.inr w
      · rcases w with (w | w) | w
        · exact w.elim
        · exact Or.inl w
        · exact Or.inr w
    generalize hT : (fun x y => acc (fun _ _ => False) (tAl d) t x y ∨ shA d t x y) = T at X2
    refine lp_inv (fun q => ∃ u g, u ≤ nS d ∧ q = (nI t, nI u, g) ∧ XR vm R B g d (acc T (fun u x y => ∃ b, b < nU d ∧ ∃ c, c < nU d ∧ BPR d b t c u x y) u) ∧ smj R h g) (fun q => nS d - q.2.1.toNatClampNeg) ?_ _ ⟨0, h2, by omega, rfl, X2.eq (acc_0 _ _), sm_tr s1 s2⟩
    rintro q K2 ⟨u, g, hu, rfl, X3, s3⟩ hK2
    obtain ⟨C3, D3, -⟩ := id X3
    unfold wb_Mod_joinAll_39
    dsimp only
    refine ⟨C3.1, ?_⟩
    rw [D3.1.1]
    refine pk_le (nS d) u (fun y => ?_) (fun y => ?_)
    · rintro w rfl
      refine hK _ ⟨t + 1, g, by omega, by rw [nI_1], X3.eq ?_, s3⟩ ?_
      · rw [acc_s, show u = nS d from by omega, ← hT]
        funext x y
        refine propext ⟨fun w => ?_, fun w => ?_⟩
        · rcases w with w | w | w
          · exact Or.inl (Or.inl w)
          · exact Or.inl (Or.inr w)
          · exact Or.inr w
        · rcases w with (w | w) | w
          · exact Or.inl w
          · exact Or.inr (Or.inl w)
          · exact Or.inr (Or.inr w)
      · dsimp only
        rw [nI_1, jr_cl (by omega), jr_cl (by omega)]; omega
    generalize hT3 : acc T (fun u x y => ∃ b, b < nU d ∧ ∃ c, c < nU d ∧ BPR d b t c u x y) u = T3 at X3
    refine lp_inv (fun q => ∃ b g2, b ≤ nU d ∧ q = (nI t, nI u, nI b, g2) ∧ XR vm R B g2 d (acc T3 (fun b x y => ∃ c, c < nU d ∧ BPR d b t c u x y) b) ∧ smj R h g2) (fun q => nU d - q.2.2.1.toNatClampNeg) ?_ _ ⟨0, g, by omega, rfl, X3.eq (acc_0 _ _), s3⟩
    rintro q K3 ⟨b, g2, hb, rfl, X4, s4⟩ hK3
    obtain ⟨C4, D4, -⟩ := id X4
    unfold wb_Mod_joinAll_49
    dsimp only
    refine ⟨C4.1, ?_⟩
    rw [D4.1.2.2.2.2.2.2]
    refine pk_le (nU d) b (fun y2 => ?_) (fun y2 => ?_)
    · rintro w rfl
      refine hK2 _ ⟨u + 1, g2, by omega, by rw [nI_1], X4.eq ?_, s4⟩ ?_
      · rw [acc_s, hT3, show b = nU d from by omega]; rfl
      · dsimp only
        rw [nI_1, jr_cl (by omega), jr_cl (by omega)]; omega
    generalize hT4 : acc T3 (fun b x y => ∃ c, c < nU d ∧ BPR d b t c u x y) b = T4 at X4
    refine lp_inv (fun q => ∃ c g3, c ≤ nU d ∧ q = (nI t, nI u, nI b, nI c, g3) ∧ XR vm R B g3 d (acc T4 (fun c x y => BPR d b t c u x y) c) ∧ smj R h g3) (fun q => nU d - q.2.2.2.1.toNatClampNeg) ?_ _ ⟨0, g2, by omega, rfl, X4.eq (acc_0 _ _), s4⟩
    rintro q K4 ⟨c, g3, hc, rfl, X5, s5⟩ hK4
    obtain ⟨C5, D5, -⟩ := id X5
    unfold wb_Mod_joinAll_60
    dsimp only
    refine ⟨C5.1, ?_⟩
    rw [D5.1.2.2.2.2.2.2]
    refine pk_le (nU d) c (fun y3 => ?_) (fun y3 => ⟨C5.1, r_joinBuses hd X5 y2 y3 z y fun g4 X6 s6 => ?_⟩)
    · rintro w rfl
      refine hK3 _ ⟨b + 1, g3, by omega, by rw [nI_1], X5.eq ?_, s5⟩ ?_
      · rw [acc_s, hT4, show c = nU d from by omega]; rfl
      · dsimp only
        rw [nI_1, jr_cl (by omega), jr_cl (by omega)]; omega
    · rintro w rfl
      refine hK4 _ ⟨c + 1, g4, by omega, by rw [nI_1], X6.eq (acc_s _ _ _), sm_tr s5 s6⟩ ?_
      dsimp only
      rw [nI_1, jr_cl (by omega), jr_cl (by omega)]; omega
  refine lp_inv (fun q => ∃ i h1, i ≤ 19520 ∧ q = (nI i, h1) ∧ RS vm R B h1 ∧ (∀ n, n < i → gA h1 (R 825) n = nI n) ∧ smj R h h1) (fun q => 19520 - q.1.toNatClampNeg) ?_ _ ⟨0, h, by omega, rfl, C, fun n hn => absurd hn (Nat.not_lt_zero _), sm_rf⟩
  rintro q K ⟨i, h1, hi, rfl, C1, U1, s1⟩ hK
  unfold wb_Mod_joinAll_2
  dsimp only
  refine pk_le 19520 i (fun z => sheets h1 ⟨C1, D.near C s1, fun n => n, ⟨fun n => n, fun n hn => U1 n (by omega), fun n hn => ⟨Nat.le_refl _, hn, rfl, fun _ => rfl, Nat.le_refl _⟩, fun _ _ => rfl⟩, LD.id⟩ s1) (fun z => ⟨C1.1, C1.rd 825 1 i rfl (by decide) z ?_⟩)
  intro h2 e2
  rw [jr_cl (by omega)] at e2
  rintro y rfl
  refine hK _ ⟨i + 1, h2, by omega, by rw [nI_1], C1.near e2, fun n hn => ?_, sm_tr s1 (by rw [e2]; exact fun x hx => ce_sA hx)⟩ ?_
  · rw [e2, gA_sA]
    by_cases w : n = i
    · rw [if_pos ⟨rfl, w⟩, w]
    · rw [if_neg (fun y => w y.2)]; exact U1 n (by omega)
  · dsimp only
    rw [nI_1, jr_cl (by omega), jr_cl (by omega)]; omega
/-! the same -/
theorem rnd_w (t w : Nat) : rnd t (120 + w) = 16 * w + t := by
  unfold rnd; rw [if_neg (by omega), if_neg (by omega), show 120 + w - 120 = w from by omega]
theorem rnd_l (t : Nat) {l : Nat} (h : l < 60) : rnd t (60 + l) = 1600 + 16 * l + t := by
  unfold rnd; rw [if_neg (by omega), if_pos (by omega), show 60 + l - 60 = l from by omega]
theorem rnd_p (t : Nat) {p : Nat} (h : p < 60) : rnd t p = 2560 + 16 * p + t := by
  unfold rnd; rw [if_pos h]
theorem plc_iff (hd : WF d) {n t s : Nat} {u v : Int64} {x y : Nat} : plc' d n t s u v x y ↔ x = n ∧ ((∃ w, thru d s u v w ∧ y = rnd t (120 + w)) ∨ ∃ b, isp d b ∧ sSh d b = s ∧ sX d b = u ∧ sY d b = v ∧ y = rnd t b) := by
  have hL := hd.1.2.2.2.1
  have hP := hd.1.2.2.2.2.1
  constructor
  · rintro (⟨w, hw, h1, h2, h3⟩ | ⟨l, hl, h1, h2, h3⟩ | ⟨p, hp, h1, h2, h3⟩)
    · exact ⟨h2, Or.inl ⟨w, h1, by rw [rnd_w]; exact h3⟩⟩
    · refine ⟨h2, Or.inr ⟨60 + l, Or.inr ⟨by omega, by omega⟩, ?_, ?_, ?_, by rw [rnd_l t (by omega)]; exact h3⟩⟩
      · rw [sSh_l]; exact h1.1
      · unfold sX; rw [if_neg (by omega), show 60 + l - 60 = l from by omega]; exact h1.2.1
      · unfold sY; rw [if_neg (by omega), show 60 + l - 60 = l from by omega]; exact h1.2.2
    · refine ⟨h2, Or.inr ⟨p, Or.inl hp, ?_, ?_, ?_, by rw [rnd_p t (by omega)]; exact h3⟩⟩
      · unfold sSh; rw [if_pos (by omega)]; exact h1.1
      · unfold sX; rw [if_pos (by omega)]; exact h1.2.1
      · unfold sY; rw [if_pos (by omega)]; exact h1.2.2
  · rintro ⟨h2, ⟨w, h1, h3⟩ | ⟨b, hb, h1, h3, h4, h5⟩⟩
    · rw [rnd_w] at h3
      exact Or.inl ⟨w, h1.1.1, h1, h2, h3⟩
    · rcases hb with w | w
      · have b60 : b < 60 := by omega
        unfold sSh at h1; unfold sX at h3; unfold sY at h4
        rw [if_pos b60] at h1 h3 h4
        rw [rnd_p t b60] at h5
        exact Or.inr (Or.inr ⟨b, w, ⟨h1, h3, h4⟩, h2, h5⟩)
      · have b60 : ¬ b < 60 := by omega
        unfold sSh at h1; unfold sX at h3; unfold sY at h4
        rw [if_neg b60] at h1 h3 h4
        rw [show b = 60 + (b - 60) from by omega, rnd_l t (by omega)] at h5
        exact Or.inr (Or.inl ⟨b - 60, by omega, ⟨h1, h3, h4⟩, h2, h5⟩)
/-- all spots of the sheet t -/
theorem spot_A (hd : WF d) {t a x y : Nat} (ha : isp d a) (hs : sSh d a = bas d t) (p : plc' d (rnd t a) t (bas d t) (sX d a) (sY d a) x y) : shA d t x y := by
  have hL := hd.1.2.2.2.1
  have hP := hd.1.2.2.2.2.1
  rcases ha with w | w
  · have a60 : a < 60 := by omega
    unfold sSh at hs; unfold sX sY at p
    rw [if_pos a60] at hs
    rw [if_pos a60, if_pos a60, rnd_p t a60] at p
    exact Or.inr (Or.inr ⟨a, w, hs, p⟩)
  · have a60 : ¬ a < 60 := by omega
    unfold sSh at hs; unfold sX sY at p
    rw [if_neg a60] at hs
    rw [if_neg a60, if_neg a60, show a = 60 + (a - 60) from by omega, rnd_l t (by omega), show 60 + (a - 60) - 60 = a - 60 from by omega] at p
    exact Or.inr (Or.inl ⟨a - 60, by omega, hs, Or.inl p⟩)
theorem plc_SR (hd : WF d) {t a x y : Nat} (ht : t < nS d) (ha : isp d a) (hs : sSh d a = bas d t) (p : plc' d (rnd t a) t (bas d t) (sX d a) (sY d a) x y) : EG (SR d) x y := by
  obtain ⟨rfl, ⟨w, h1, rfl⟩ | ⟨b, hb, h1, h3, h4, rfl⟩⟩ := (plc_iff hd).mp p
  · refine (EG.of (Or.inl ⟨t, 120 + w, a, ht, Or.inr (Or.inr (Or.inl ⟨w, h1.1, ha, by rw [h1.2.1, hs], h1.2.2, rfl⟩)), by rw [tSh_w]; exact h1.2.1, rfl, rfl⟩)).sy
  · exact EG.of (Or.inl ⟨t, a, b, ht, Or.inr (Or.inr (Or.inr ⟨ha, hb, by rw [h1, hs], h3.symm, h4.symm⟩)), by rw [tSh_sp hd ha]; exact hs, rfl, rfl⟩)
theorem RAl_SR (hd : WF d) : (∀ x y, RAl d x y → EG (SR d) x y) ∧ ∀ x y, SR d x y → EG (RAl d) x y := by
  have hL := hd.1.2.2.2.1
  have hP := hd.1.2.2.2.2.1
  have spl : ∀ l, l < nL d → isp d (60 + l) ∧ sSh d (60 + l) = lSh d l ∧ sX d (60 + l) = lX d l ∧ sY d (60 + l) = lY d l := fun l hl => ⟨Or.inr ⟨by omega, by omega⟩, sSh_l d l, by unfold sX; rw [if_neg (by omega), show 60 + l - 60 = l from by omega], by unfold sY; rw [if_neg (by omega), show 60 + l - 60 = l from by omega]⟩
  have spp : ∀ p, p < nP d → isp d p ∧ sSh d p = pSh d p ∧ sX d p = pX d p ∧ sY d p = pY d p := fun p hp => ⟨Or.inl hp, by unfold sSh; rw [if_pos (by omega)], by unfold sX; rw [if_pos (by omega)], by unfold sY; rw [if_pos (by omega)]⟩
  constructor
  · rintro x y (⟨t, ht, (⟨v, hv, w, hw, ⟨a1, a2, a3, a4, a5⟩, rfl, rfl⟩ | ⟨l, hl, h1, h2 | ⟨rfl, rfl⟩⟩ | ⟨p, hp, h1, h2⟩) | ⟨u, hu, b, hb, c, hc, al, i, i1, i2, rfl, rfl⟩⟩ | ⟨k, hk, rfl, rfl⟩)
    · rw [← rnd_w, ← rnd_w]
      refine EG.of (Or.inl ⟨t, 120 + v, 120 + w, ht, ?_, by rw [tSh_w]; exact a3, rfl, rfl⟩)
      rcases a5 with a5 | ⟨k, k1, k2, k3, k4⟩
      · exact Or.inl ⟨v, w, a1, a2, by rw [a3, a4], a5, rfl, rfl⟩
      · exact Or.inr (Or.inl ⟨v, w, k, k1, a1, a2, by rw [a3, k2], by rw [a4, k2], k3, k4, rfl, rfl⟩)
    · obtain ⟨s1, s2, s3, s4⟩ := spl l hl
      rw [← rnd_l t (show l < 60 by omega), ← s3, ← s4] at h2
      exact plc_SR hd ht s1 (by rw [s2]; exact h1) h2
    · rw [← rnd_l t (show l < 60 by omega)]
      exact EG.of (Or.inr (Or.inl ⟨t, l, ht, hl, h1, rfl, rfl⟩))
    · obtain ⟨s1, s2, s3, s4⟩ := spp p hp
      rw [← rnd_p t (show p < 60 by omega), ← s3, ← s4] at h2
      exact plc_SR hd ht s1 (by rw [s2]; exact h1) h2
    · exact EG.of (Or.inr (Or.inr (Or.inl ⟨b, t, c, u, i, hb, hc, ht, hu, al, i1, i2, rfl, rfl⟩)))
    · have ll := (hd.2.2.2.2.2.2.1 k hk).2.1
      rw [← rnd_l _ (show oLb d k < 60 by omega)]
      exact EG.of (Or.inr (Or.inr (Or.inr ⟨k, hk, rfl, rfl⟩)))
  · rintro x y (⟨t, a, b, ht, h, hs, rfl, rfl⟩ | ⟨t, l, ht, hl, h1, rfl, rfl⟩ | ⟨b, t, c, u, i, hb, hc, ht, hu, al, i1, i2, rfl, rfl⟩ | ⟨k, hk, rfl, rfl⟩)
    · have ws : ∀ v w, ali d v → ali d w → wSh d v = bas d t → wSh d w = bas d t → (hend d v w ∨ ∃ k, k < nJ d ∧ jSh d k = bas d t ∧ thr d v (jX d k) (jY d k) ∧ thr d w (jX d k) (jY d k)) → EG (RAl d) (rnd t (120 + v)) (rnd t (120 + w)) := by
        intro v w a1 a2 a3 a4 a5
        rcases Nat.lt_trichotomy v w with z | z | z
        · refine EG.sy (EG.of (Or.inl ⟨t, ht, Or.inl (Or.inl ⟨w, a2.1, v, z, ⟨a2, a1, a4, a3, ?_⟩, by rw [rnd_w], by rw [rnd_w]⟩)⟩))
          rcases a5 with a5 | ⟨k, k1, k2, k3, k4⟩
          · exact Or.inl (hend_sy a5)
          · exact Or.inr ⟨k, k1, k2, k4, k3⟩
        · rw [z]; exact EG.rf _
        · exact EG.of (Or.inl ⟨t, ht, Or.inl (Or.inl ⟨v, a1.1, w, z, ⟨a1, a2, a3, a4, a5⟩, by rw [rnd_w], by rw [rnd_w]⟩)⟩)
      rcases h with ⟨v, w, g1, g2, g3, g4, rfl, rfl⟩ | ⟨v, w, k, g0, g1, g2, g3, g4, g5, g6, rfl, rfl⟩ | ⟨w, g1, hb, g3, g4, rfl⟩ | ⟨ha, hb, g3, g4, g5⟩
      · rw [tSh_w] at hs
        exact ws v w g1 g2 hs (by rw [← g3]; exact hs) (Or.inl g4)
      · rw [tSh_w] at hs
        exact ws v w g1 g2 hs (by rw [g4, ← g3]; exact hs) (Or.inr ⟨k, g0, by rw [← g3]; exact hs, g5, g6⟩)
      · rw [tSh_w] at hs
        refine EG.sy (EG.of (Or.inl ⟨t, ht, Or.inl (spot_A hd hb (by rw [← g3]; exact hs) ((plc_iff hd).mpr ⟨rfl, Or.inl ⟨w, ⟨g1, hs, g4⟩, rfl⟩⟩))⟩))
      · rw [tSh_sp hd ha] at hs
        exact EG.of (Or.inl ⟨t, ht, Or.inl (spot_A hd ha hs ((plc_iff hd).mpr ⟨rfl, Or.inr ⟨b, hb, by rw [← g3]; exact hs, g4.symm, g5.symm, rfl⟩⟩))⟩)
    · rw [rnd_l t (show l < 60 by omega)]
      exact EG.of (Or.inl ⟨t, ht, Or.inl (Or.inr (Or.inl ⟨l, hl, h1, Or.inr ⟨rfl, rfl⟩⟩))⟩)
    · exact EG.of (Or.inl ⟨t, ht, Or.inr ⟨u, hu, b, hb, c, hc, al, i, i1, i2, rfl, rfl⟩⟩)
    · have ll := (hd.2.2.2.2.2.2.1 k hk).2.1
      rw [rnd_l _ (show oLb d k < 60 by omega)]
      exact EG.of (Or.inr ⟨k, hk, rfl, rfl⟩)
end RAL
