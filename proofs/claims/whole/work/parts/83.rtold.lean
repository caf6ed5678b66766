section RTO
variable {Z : Nat → Nat} {vm : Nat} {R : Nat → Nat} {B : Nat → Nat × Nat} {h h' : HS} {d : DS} {ch : Nat → Prop} {ld : Nat → Nat}
theorem neg_pin : ∀ q, q < 60 → (-1 : Int32) - nI q < 0 := by decide +kernel
theorem r_told {post : Int32 → HS → Prop} {k : Int32} (hd : WF d) (K : KR vm R B h d ch) (kk : ∀ r h', Kth (RP d) rv 960120 k r → KR vm R B h' d ch → sm20 B h h' → post r h') : wp_Mod_told Z post h vm k := by
  have c9 : cnt d ≤ 960 := cn_up _ _
  have hL := hd.1.2.2.2.1
  have hP := hd.1.2.2.2.2.1
  refine ⟨K.1.1, ?_⟩
  intro h7 e7
  obtain ⟨K7, t7, s7⟩ := K.thr e7
  clear e7
  obtain ⟨S7, D7, n7, -, O7⟩ := id K7
  have go : ∀ r, Kth (RP d) rv 960120 k r → post r h7 := fun r w => kk r h7 w K7 s7
  refine ⟨fun nn => ?_, fun nn => go _ (Or.inr ⟨Or.inl ?_, rfl⟩)⟩
  rotate_left
  · rw [Int32.lt_iff_toInt_lt]; rw [Int32.le_iff_toInt_le] at nn; omega
  obtain ⟨m, m1, rfl⟩ := nI_of (x := k) (by rw [Int32.lt_iff_toInt_lt]; rw [Int32.le_iff_toInt_le] at nn; omega)
  clear nn
  have found : ∀ J, J < 960120 → RP d J → m = cn (RP d) J → ∀ r, r = rv J → post r h7 := fun J hJ p e r er => go r (Or.inl ⟨J, hJ, p, by rw [e], er⟩)
  have up : ∀ J, cn (RP d) J ≤ J := cn_up _
  -- left: what is still to be passed
  -- pins
  have third : cn (RP d) 960060 ≤ m → lp (wb_Mod_told_135 Z post vm) (nI (m - cn (RP d) 960060), (0 : Int32), h7) := by
    intro st
    refine lp_inv (fun q => ∃ p, p ≤ nP d ∧ cn (RP d) (960060 + p) ≤ m ∧ q = (nI (m - cn (RP d) (960060 + p)), nI p, h7)) (fun q => nP d - q.2.1.toNatClampNeg) ?_ _ ⟨0, by omega, st, rfl⟩
    rintro q K3 ⟨p, p1, p2, rfl⟩ hK
    have next : p < nP d → cn (RP d) (960060 + p + 1) ≤ m → wj_Mod_told_175 Z post K3 vm (nI (m - cn (RP d) (960060 + p + 1))) (nI p) h7 := by
      intro z w
      rintro y rfl
      refine hK _ ⟨p + 1, by omega, w, by rw [nI_1]; rfl⟩ ?_
      dsimp only
      rw [nI_1, jr_cl (by omega), jr_cl (by omega)]; omega
    have rp : p < nP d → (RP d (960060 + p) ↔ (¬ pOp d p = 0 ∧ joi d p)) := by
      intro hp
      unfold RP
      rw [show 960060 + p - 960060 = p from by omega]
      constructor
      · rintro (w | w | w)
        · omega
        · omega
        · exact ⟨w.2.2.2.1, w.2.2.2.2⟩
      · intro w; exact Or.inr (Or.inr ⟨by omega, by omega, hp, w.1, w.2⟩)
    have quiet : p < nP d → ¬ RP d (960060 + p) → wj_Mod_told_175 Z post K3 vm (nI (m - cn (RP d) (960060 + p))) (nI p) h7 := by
      intro z w
      have := next z (by rw [cn_n w]; exact p2)
      rw [cn_n w] at this; exact this
    unfold wb_Mod_told_135
    dsimp only
    refine ⟨S7.1, ?_⟩
    rw [D7.1.2.2.2.2.1]
    refine pk_le (nP d) p (fun z => go _ (Or.inr ⟨Or.inr ?_, rfl⟩)) (fun z => ⟨S7.1, S7.rd 819 2 p rfl (by decide) (by show p < 60; omega) ?_⟩)
    · have no : ∀ j, 960060 + p ≤ j → j < 960120 → ¬ RP d j := by
        intro j a b w
        rcases w with w | w | w <;> omega
      have u := up 960120
      rw [nI_leI (by omega) m1, cn_skip (m := 960060 + p) (by omega) no]; exact p2
    have po := (hd.2.2.2.2.2.1 p z).2.2
    rw [jr_cl (by omega), D7.2.2.2.2.2.1.2 p (by omega), nI_z (by omega)]
    have E : ∀ k, k < 960 → (vR d k → gA h7 (R 827) k = nI (nn d k)) ∧ (¬ vR d k → gA h7 (R 827) k = -1) := by
      rcases O7 with o | ⟨o1, ld, o2, o3, o4⟩
      · have := o.2.2.1; omega
      · exact fun k hk => o4.get hk
    refine ⟨fun e => quiet z fun w => ((rp z).mp w).1 e, fun e => ⟨S7.1, r_isJoined hd S7 E z (fun j => ⟨fun _ => ?_, fun q => absurd q (by decide)⟩) (fun j => ⟨fun q => absurd rfl q, fun _ => quiet z fun w => j ((rp z).mp w).2⟩)⟩⟩
    have pp : RP d (960060 + p) := (rp z).mpr ⟨e, j⟩
    have u := up (960060 + p)
    refine ⟨fun ne => ?_, fun e0 => found _ (by omega) pp ?_ _ ?_⟩
    · have : cn (RP d) (960060 + p) < m := by
        have : m - cn (RP d) (960060 + p) ≠ 0 := fun w => ne (by rw [w]; rfl)
        omega
      rintro y rfl
      rw [dec_left this, ← cn_s pp]
      exact next z (by rw [cn_s pp]; omega)
    · rw [nI_z (by omega)] at e0; omega
    · rw [show (200000000 : Int32) = nI 200000000 from rfl, nI_add]
      unfold rv; rw [if_neg (by omega), if_neg (by omega), show 960060 + p - 960060 = p from by omega]
  -- labels
  have second : cn (RP d) 960000 ≤ m → lp (wb_Mod_told_96 Z post vm) (nI (m - cn (RP d) 960000), (0 : Int32), h7) := by
    intro st
    refine lp_inv (fun q => ∃ p, p ≤ nL d ∧ cn (RP d) (960000 + p) ≤ m ∧ q = (nI (m - cn (RP d) (960000 + p)), nI p, h7)) (fun q => nL d - q.2.1.toNatClampNeg) ?_ _ ⟨0, by omega, st, rfl⟩
    rintro q K3 ⟨p, p1, p2, rfl⟩ hK
    have next : p < nL d → cn (RP d) (960000 + p + 1) ≤ m → wj_Mod_told_127 Z post K3 vm (nI (m - cn (RP d) (960000 + p + 1))) (nI p) h7 := by
      intro z w
      rintro y rfl
      refine hK _ ⟨p + 1, by omega, w, by rw [nI_1]; rfl⟩ ?_
      dsimp only
      rw [nI_1, jr_cl (by omega), jr_cl (by omega)]; omega
    have rp : p < nL d → (RP d (960000 + p) ↔ bare d p) := by
      intro hp
      unfold RP
      rw [show 960000 + p - 960000 = p from by omega]
      constructor
      · rintro (w | w | w)
        · omega
        · exact w.2.2.2
        · omega
      · intro w; exact Or.inr (Or.inl ⟨by omega, by omega, hp, w⟩)
    unfold wb_Mod_told_96
    dsimp only
    refine ⟨S7.1, ?_⟩
    rw [D7.1.2.2.2.1]
    refine pk_le (nL d) p (fun z => ?_) (fun z => ⟨S7.1, r_isBare hd S7 D7 z (fun j => ⟨fun _ => ?_, fun q => absurd q (by decide)⟩) (fun j => ⟨fun q => absurd rfl q, fun _ => ?_⟩)⟩)
    · have no : ∀ j, 960000 + p ≤ j → j < 960060 → ¬ RP d j := by
        intro j a b w
        rcases w with w | w | w <;> omega
      have e := cn_skip (P := RP d) (m := 960000 + p) (n := 960060) (by omega) no
      rw [← e]
      exact third (by rw [e]; exact p2)
    · have pp : RP d (960000 + p) := (rp z).mpr j
      have u := up (960000 + p)
      refine ⟨fun ne => ?_, fun e0 => found _ (by omega) pp ?_ _ ?_⟩
      · have : cn (RP d) (960000 + p) < m := by
          have : m - cn (RP d) (960000 + p) ≠ 0 := fun w => ne (by rw [w]; rfl)
          omega
        rintro y rfl
        rw [dec_left this, ← cn_s pp]
        exact next z (by rw [cn_s pp]; omega)
      · rw [nI_z (by omega)] at e0; omega
      · rw [show (100000000 : Int32) = nI 100000000 from rfl, nI_add]
        unfold rv; rw [if_neg (by omega), if_pos (by omega), show 960000 + p - 960000 = p from by omega]
    · have np : ¬ RP d (960000 + p) := fun w => j ((rp z).mp w)
      have := next z (by rw [cn_n np]; exact p2)
      rw [cn_n np] at this; exact this
  -- nets
  refine lp_inv (fun q => ∃ n, n ≤ cnt d ∧ cn (RP d) (1000 * n) ≤ m ∧ q = (nI (m - cn (RP d) (1000 * n)), nI n, h7)) (fun q => cnt d - q.2.1.toNatClampNeg) ?_ _ ⟨0, by omega, by rw [Nat.mul_zero, cn_0]; omega, rfl⟩
  rintro q K3 ⟨n, n1, n2, rfl⟩ hK
  unfold wb_Mod_told_15
  dsimp only
  refine ⟨S7.1, ?_⟩
  rw [n7]
  refine pk_le (cnt d) n (fun z => ?_) (fun z => ⟨S7.1, ?_⟩)
  · have no : ∀ j, 1000 * n ≤ j → j < 960000 → ¬ RP d j := by
      intro j a b w
      rcases w with w | w | w <;> omega
    have e := cn_skip (P := RP d) (m := 1000 * n) (n := 960000) (by omega) no
    rw [← e]
    exact second (by rw [e]; exact n2)
  obtain ⟨ld, a1, a2, a3⟩ := K7.act (by omega)
  refine r_nameOf hd S7 D7 a1 a2 a3 z fun own ho => ?_
  have rp : ∀ i, i < 1000 → (RP d (1000 * n + i) ↔ (hasNm d n i ∧ ¬ BestOf d n i)) := by
    intro i hi
    unfold RP
    rw [show (1000 * n + i) / 1000 = n from by omega, show (1000 * n + i) % 1000 = i from by omega]
    constructor
    · rintro (w | w | w)
      · exact ⟨w.2.2.1, w.2.2.2⟩
      · omega
      · omega
    · intro w
      exact Or.inl ⟨by omega, z, w.1, w.2⟩
  have done : cn (RP d) (1000 * (n + 1)) ≤ m → wj_Mod_told_88 Z post K3 vm (nI (m - cn (RP d) (1000 * (n + 1)))) (nI n) h7 := by
    intro w
    rintro y rfl
    refine hK _ ⟨n + 1, by omega, w, by rw [nI_1]⟩ ?_
    dsimp only
    rw [nI_1, jr_cl (by omega), jr_cl (by omega)]; omega
  rcases ho with ⟨b, b1, rfl, b3⟩ | ⟨b1, j, j1, j2, rfl⟩
  · refine lp_inv (fun q => ∃ i, i ≤ 1000 ∧ cn (RP d) (1000 * n + i) ≤ m ∧ q = (nI (m - cn (RP d) (1000 * n + i)), nI n, nI b, nI i, h7)) (fun q => 1000 - q.2.2.2.1.toNatClampNeg) ?_ _ ⟨0, by omega, n2, rfl⟩
    rintro q K4 ⟨i, i1, i2, rfl⟩ hK4
    have u := up (1000 * n + i)
    have next : i < 1000 → cn (RP d) (1000 * n + i + 1) ≤ m → wj_Mod_told_82 Z post K3 K4 vm (nI (m - cn (RP d) (1000 * n + i + 1))) (nI n) (nI b) (nI i) h7 := by
      intro z w
      rintro y rfl
      refine hK4 _ ⟨i + 1, by omega, w, by rw [nI_1]; rfl⟩ ?_
      dsimp only
      rw [nI_1, jr_cl (by omega), jr_cl (by omega)]; omega
    have quiet : i < 1000 → ¬ RP d (1000 * n + i) → wj_Mod_told_82 Z post K3 K4 vm (nI (m - cn (RP d) (1000 * n + i))) (nI n) (nI b) (nI i) h7 := by
      intro z w
      have := next z (by rw [cn_n w]; exact i2)
      rw [cn_n w] at this; exact this
    unfold wb_Mod_told_33
    dsimp only
    refine pk_le 1000 i (fun y => ?_) (fun y => br_f (nI_pos (by omega)) ?_)
    · have e : 1000 * n + i = 1000 * (n + 1) := by omega
      rw [e] at i2 ⊢
      exact done i2
    rw [nI_eq (by omega) (by omega)]
    refine ⟨fun e => quiet y fun w => ((rp i y).mp w).2 (by rw [e]; exact b3), fun e => ⟨S7.1, r_hasName hd S7 D7 a1 a2 a3 z y (fun hw => ⟨fun _ => ?_, fun q => absurd q (by decide)⟩) (fun hw => ⟨fun q => absurd rfl q, fun _ => quiet y fun w => hw ((rp i y).mp w).1⟩)⟩⟩
    have pp : RP d (1000 * n + i) := (rp i y).mpr ⟨hw, fun w => e (Best_u w b3)⟩
    refine ⟨fun ne => ?_, fun e0 => found _ (by omega) pp ?_ _ ?_⟩
    · have : cn (RP d) (1000 * n + i) < m := by
        have : m - cn (RP d) (1000 * n + i) ≠ 0 := fun w => ne (by rw [w]; rfl)
        omega
      rintro x rfl
      rw [dec_left this, ← cn_s pp]
      exact next y (by rw [cn_s pp]; omega)
    · rw [nI_z (by omega)] at e0; omega
    · rw [show (1000 : Int32) = nI 1000 from rfl, pk_mul, nI_add]
      unfold rv; rw [if_pos (by omega)]
  · have jl := vR_lt hd j1.1
    have neg := neg_pin (j / 16) (by omega)
    have no : ∀ i, 1000 * n ≤ i → i < 1000 * (n + 1) → ¬ RP d i := by
      intro i x1 x2 w
      rw [show i = 1000 * n + (i - 1000 * n) from by omega, rp _ (by omega)] at w
      exact b1 _ w.1
    have e := cn_skip (P := RP d) (m := 1000 * n) (n := 1000 * (n + 1)) (by omega) no
    have dn := done (by rw [e]; exact n2)
    rw [e] at dn
    refine lp_inv (fun q => q = (nI (m - cn (RP d) (1000 * n)), nI n, -1 - nI (j / 16), (0 : Int32), h7)) (fun _ => 0) ?_ _ rfl
    rintro q K4 rfl hK4
    unfold wb_Mod_told_33
    dsimp only
    exact ⟨fun _ => dn, fun _ => ⟨fun _ => dn, fun w => absurd neg w⟩⟩
end RTO
