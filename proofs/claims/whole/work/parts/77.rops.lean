section ROP
variable {Z : Nat → Nat} {vm : Nat} {R : Nat → Nat} {B : Nat → Nat × Nat} {h h' : HS} {d : DS} {ch : Nat → Prop}
theorem KR.thr {v : Int32} (K : KR vm R B h d ch) (e : h' = sI h 800 vm v) : KR vm R B h' d ch ∧ gI h' 800 vm = v ∧ sm20 B h h' := by
  obtain ⟨S, D, e1, I, O⟩ := K
  obtain ⟨S', s, I', c⟩ := S.wI e
  refine ⟨⟨S', D.frame (fun g _ _ => by rw [I' g, if_neg (by omega)]) fun g _ _ hk => ⟨(c g hk).A, (c g hk).L⟩, by rw [I', if_neg (by omega)]; exact e1, fun n hn => by rw [(c 830 (by decide)).A]; exact I n hn, ?_⟩, by rw [I', if_pos rfl], s⟩
  rw [I', if_neg (by omega)]
  rcases O with o | ⟨o1, ld, ⟨up, U, F⟩, o3, o4⟩
  · exact Or.inl o
  · refine Or.inr ⟨o1, ld, ⟨up, fun n hn => by rw [(c 825 (by decide)).A]; exact U n hn, F⟩, o3, ?_⟩
    unfold NE at o4 ⊢
    rw [I', if_neg (by omega), (c 827 (by decide)).A, (c 826 (by decide)).A]; exact o4
theorem KR.old (K : KR vm R B h d ch) (e1 : gI h' 832 vm = gI h 832 vm) (e2 : gA h' (R 827) = gA h (R 827)) : OLD vm R h' d := by
  obtain ⟨S, D, -, I, O⟩ := K
  unfold OLD
  rw [e1, e2]
  rcases O with o | ⟨o1, ld, o2, o3, o4⟩
  · exact Or.inl ⟨o.1, fun k v => by have := v.1; rw [o.2.2.1] at this; exact Nat.not_lt_zero _ this⟩
  · exact Or.inr ⟨o1, fun k hk => o4.get hk⟩
theorem r_isPlace {post : Int32 → HS → Prop} {x y : Int64} (k1 : plA x y → post 1 h) (k0 : ¬ plA x y → post 0 h) : wp_Mod_isPlace Z post h x y := by
  unfold plA at k0 k1
  simp only [Int64.le_iff_toInt_le] at k0 k1
  refine ⟨fun z => k0 fun w => ?_, fun z => ⟨fun z1 => k0 fun w => ?_, fun z1 => ⟨fun z2 => k0 fun w => ?_, fun z2 => ⟨fun z3 => k0 fun w => ?_, fun z3 => k1 ?_⟩⟩⟩⟩
  · rw [lg_cmp_lt, Int64.lt_iff_toInt_lt] at z; omega
  · rw [lg_cmp_gt, Int64.lt_iff_toInt_lt] at z1; omega
  · rw [lg_cmp_lt, Int64.lt_iff_toInt_lt] at z2; omega
  · rw [lg_cmp_gt, Int64.lt_iff_toInt_lt] at z3; omega
  · rw [lg_cmp_lt, Int64.lt_iff_toInt_lt] at z z2
    rw [lg_cmp_gt, Int64.lt_iff_toInt_lt] at z1 z3
    omega
theorem r_isName {post : Int32 → HS → Prop} {x : Int32} (k1 : isN x → post 1 h) (k0 : ¬ isN x → post 0 h) : wp_Mod_isName Z post h x := by
  refine ⟨fun z => k0 fun ⟨s, s1, s2⟩ => nI_pos (n := s) (by omega) (by rw [← s2]; exact z), fun z => ?_⟩
  obtain ⟨s, s1, rfl⟩ := nI_of z
  refine pk_le 1000 s (fun w => k0 fun ⟨t, t1, t2⟩ => ?_) (fun w => k1 ⟨s, w, rfl⟩)
  rw [nI_eq (by omega) (by omega)] at t2; omega
theorem r_isSheet {post : Int32 → HS → Prop} {x : Int32} (hd : WF d) (S : RS vm R B h) (D : RD vm R h d) (k1 : isS d x → post 1 h) (k0 : ¬ isS d x → post 0 h) : wp_Mod_isSheet Z post h vm x := by
  have hS := hd.1.1
  refine ⟨fun z => k0 fun ⟨s, s1, s2⟩ => nI_pos (n := s) (by omega) (by rw [← s2]; exact z), fun z => ⟨S.1, ?_⟩⟩
  obtain ⟨s, s1, rfl⟩ := nI_of z
  rw [D.1.1]
  refine pk_le (nS d) s (fun w => k0 fun ⟨t, t1, t2⟩ => ?_) (fun w => k1 ⟨s, w, rfl⟩)
  rw [nI_eq (by omega) (by omega)] at t2; omega
theorem r_refusal {post : Int32 → HS → Prop} {x x2 : Int32} {g : Prop} (hd : WF d) (S : RS vm R B h) (D : RD vm R h d) (hg : (x2 = 1 ∧ g) ∨ (x2 = 0 ∧ ¬ g)) (k1 : ¬ isS d x → post 1 h) (k2 : ∀ k, k < nS d → bas d k ≠ k → x = nI k → post 2 h) (k3 : ∀ k, drw d k → x = nI k → ¬ g → post 3 h) (k0 : ∀ k, drw d k → x = nI k → g → post 0 h) : wp_Mod_refusal Z post h vm x x2 := by
  have hS := hd.1.1
  refine ⟨S.1, r_isSheet hd S D (fun is => ⟨fun _ => ⟨S.1, ?_⟩, fun e => absurd e (by decide)⟩) (fun n => ⟨fun e => absurd rfl e, fun _ => k1 n⟩)⟩
  obtain ⟨s, sl, rfl⟩ := is
  have bs := (hd.2.1 s sl).1
  refine S.rd 803 1 s rfl (by decide) (by show s < 16; omega) ?_
  rw [jr_cl (by omega), (D.2.1 s sl).2, nI_eq (by omega) (by omega)]
  refine ⟨fun e => ?_, fun e => k2 s sl e rfl⟩
  rcases hg with ⟨rfl, w⟩ | ⟨rfl, w⟩
  · exact ⟨fun y => absurd y (by decide), fun _ => k0 s ⟨sl, e⟩ rfl w⟩
  · exact ⟨fun _ => k3 s ⟨sl, e⟩ rfl w, fun y => absurd rfl y⟩
theorem r_wire {post : Int32 → HS → Prop} {x1 : Int32} {a b c e : Int64} (hd : WF d) (z0 : wDr d (nW d) = 0) (K : KR vm R B h d ch) (kk : ∀ n r s h', o_wire (d, ch) x1 a b c e = (n, r, s) → KR vm R B h' s.1 s.2 → gI h' 800 vm = nI n → sm20 B h h' → post r h') : wp_Mod_wire Z post h vm x1 a b c e := by
  have hS := hd.1.1
  have hW := hd.1.2.1
  have body : ∀ x2 : Int32, ((x2 = 1 ∧ (plA a b ∧ plA c e ∧ ¬ (a = c ∧ b = e))) ∨ (x2 = 0 ∧ ¬ (plA a b ∧ plA c e ∧ ¬ (a = c ∧ b = e)))) → wj_Mod_wire_42 Z post vm x1 a b c e x2 x1 (some vm) (some vm) h := by
    intro x2 hx
    have bad : ∀ (Q : HS → Prop) (n : Nat), n = 1 ∨ n = 2 ∨ n = 3 → o_wire (d, ch) x1 a b c e = (n, 0, (d, ch)) → ∀ h7, h7 = sI h 800 vm (nI n) → gT h7 vm = 24 ∧ (((gI h7 800 vm) = 0 → Q h7) ∧ (¬ (gI h7 800 vm) = 0 → (post (0 : Int32) h7))) := by
      intro Q n hn eo h7 e7
      obtain ⟨K7, t7, s7⟩ := K.thr e7
      refine ⟨K7.1.1, fun w => absurd w ?_, fun _ => kk n 0 _ h7 eo K7 t7 s7⟩
      rw [t7, nI_z (by omega)]; omega
    refine ⟨vm, rfl, K.1.1, r_refusal hd K.1 K.2.1 hx (fun n => ⟨vm, rfl, K.1.1, bad _ 1 (by omega) (o_ref1 n)⟩) (fun k q1 q2 q3 => ⟨vm, rfl, K.1.1, bad _ 2 (by omega) (o_ref2 hS q1 q2 q3)⟩) (fun k q1 q2 q3 => ⟨vm, rfl, K.1.1, bad _ 3 (by omega) (o_ref3 q1 q2 q3)⟩) (fun k q1 q2 q3 => ⟨vm, rfl, K.1.1, ?_⟩)⟩
    intro h7 e7
    obtain ⟨K7, t7, s7⟩ := K.thr e7
    clear e7
    have eo : o_wire (d, ch) x1 a b c e = cif (nW d = 100) (0, -1, (d, ch)) (0, nI (nW d), nx (d, ch) (dWi d (tn x1) a b c e)) := o_ref0 q1 q2 q3
    have kl := q1.1
    subst q2
    rw [tn_nI (by omega)] at eo
    obtain ⟨S7, D7, -⟩ := id K7
    have n7 := D7.1.2.1
    refine ⟨S7.1, fun _ => ⟨S7.1, ?_⟩, fun w => absurd t7 w⟩
    rw [n7, show (100 : Int32) = nI 100 from rfl, nI_eq (by omega) (by omega)]
    refine ⟨fun nf => ⟨S7.1, S7.1, S7.rd 805 1 (nW d) rfl (by decide) (by show nW d < 100; omega) ?_⟩, fun f => kk 0 (-1) _ h7 (by rw [eo, cif_t f]) K7 t7 s7⟩
    rw [cif_f nf] at eo
    intro g1 e1
    rw [jr_cl (by omega)] at e1
    obtain ⟨S1, s1, I1, c1, a1⟩ := S7.wA (by decide) e1
    clear e1
    refine ⟨S1.1, S1.1, ?_⟩
    rw [I1, n7, show (4 : Int32) = nI 4 from rfl, pk_mul]
    refine S1.rd 806 3 (4 * nW d) rfl (by decide) (by show 4 * nW d < 400; omega) ?_
    intro g2 e2
    rw [jr_cl (by omega)] at e2
    obtain ⟨S2, s2, I2, c2, l2, -⟩ := S1.wL (by decide) e2
    clear e2
    refine ⟨S2.1, S2.1, ?_⟩
    rw [I2, I1, n7, pk_mul, show (1 : Int32) = nI 1 from rfl, nI_add]
    refine S2.rd 806 3 (4 * nW d + 1) rfl (by decide) (by show 4 * nW d + 1 < 400; omega) ?_
    intro g3 e3
    rw [jr_cl (by omega)] at e3
    obtain ⟨S3, s3, I3, c3, l3, -⟩ := S2.wL (by decide) e3
    clear e3
    refine ⟨S3.1, S3.1, ?_⟩
    rw [I3, I2, I1, n7, pk_mul, show (2 : Int32) = nI 2 from rfl, nI_add]
    refine S3.rd 806 3 (4 * nW d + 2) rfl (by decide) (by show 4 * nW d + 2 < 400; omega) ?_
    intro g4 e4
    rw [jr_cl (by omega)] at e4
    obtain ⟨S4, s4, I4, c4, l4, -⟩ := S3.wL (by decide) e4
    clear e4
    refine ⟨S4.1, S4.1, ?_⟩
    rw [I4, I3, I2, I1, n7, pk_mul, show (3 : Int32) = nI 3 from rfl, nI_add]
    refine S4.rd 806 3 (4 * nW d + 3) rfl (by decide) (by show 4 * nW d + 3 < 400; omega) ?_
    intro g5 e5
    rw [jr_cl (by omega)] at e5
    obtain ⟨S5, s5, I5, c5, l5, -⟩ := S4.wL (by decide) e5
    clear e5
    refine ⟨S5.1, S5.1, ?_⟩
    intro g6 e6
    rw [I5, I4, I3, I2, I1, n7, nI_add] at e6
    obtain ⟨S6, s6, I6, c6⟩ := S5.wI e6
    clear e6
    have I : ∀ g, gI g6 g vm = if g = 804 then nI (nW d + 1) else gI h7 g vm := fun g => by rw [I6, I5, I4, I3, I2, I1]
    have c26 : ∀ g, g ≠ 806 → rK g ≠ 0 → ce g1 g6 (R g) := fun g h1 h2 => ce_tr (c2 g h1 h2) (ce_tr (c3 g h1 h2) (ce_tr (c4 g h1 h2) (ce_tr (c5 g h1 h2) (c6 g h2))))
    have D6 : RD vm R g6 (dWi d k a b c e) := by
      refine rd_wi k a b c e D7 (fun g _ _ => I g) (fun g h1 h2 h3 h4 h5 => ?_) (fun j => ?_) (fun j => ?_)
      · have := ce_tr (c1 g h4 h3) (c26 g h5 h3)
        exact ⟨this.A, this.L⟩
      · rw [(c26 805 (by omega) (by decide)).A, a1]
      · rw [(c6 806 (by decide)).L, l5, l4, l3, l2, (c1 806 (by omega) (by decide)).L]
    have O6 : OLD vm R g6 d := K7.old (by rw [I, if_neg (by omega)]) (by rw [(c26 827 (by omega) (by decide)).A, (c1 827 (by omega) (by decide)).A])
    refine ⟨S6.1, r_anew hd (WF_wi hd q1 (by omega) z0) S6 D6 O6 fun h9 K9 _ i9 s9 => ⟨K9.1.1, ?_⟩⟩
    rw [K9.2.1.1.2.1, show nW (dWi d k a b c e) = nW d + 1 from by simp [dWi, dN_eN, dL_eL, dI_eI, dL_eN, dI_eN, dN_eL, dI_eL, dN_eI, dL_eI, nS, nW, nJ, nL, nP, nO, nU, bas, wSh, wDr, jSh, lSh, lNm, pSh, pOp, oSh, oLb, oNm, uSh, uNm, uFr, uTo, wX, wY, wX2, wY2, jX, jY, lX, lY, pX, pY, par, pPt, rnk]]
    show post (nI (nW d + 1) - nI 1) h9
    rw [pk_sub (by omega), show nW d + 1 - 1 = nW d from by omega]
    exact kk 0 _ _ h9 eo K9 (by rw [i9 800 (by omega) (by omega) (by omega), I, if_neg (by omega)]; exact t7) (sm_tr s7 (sm_tr s1 (sm_tr s2 (sm_tr s3 (sm_tr s4 (sm_tr s5 (sm_tr s6 s9)))))))
  have no : ¬ (plA a b ∧ plA c e ∧ ¬ (a = c ∧ b = e)) → wj_Mod_wire_41 Z post vm x1 a b c e x1 (some vm) (some vm) h := fun w => body 0 (Or.inr ⟨rfl, w⟩)
  have yes : (plA a b ∧ plA c e ∧ ¬ (a = c ∧ b = e)) → wj_Mod_wire_37 Z post vm x1 a b c e x1 (some vm) (some vm) h := fun w => body 1 (Or.inl ⟨rfl, w⟩)
  refine r_isPlace (fun p1 => ⟨fun q => absurd q (by decide), fun _ => r_isPlace (fun p2 => ⟨fun q => absurd q (by decide), fun _ => ⟨fun w => yes ⟨p1, p2, fun x => w ((lg_cmp_eq _ _).mpr x.1)⟩, fun w => ⟨fun y => no fun x => x.2.2 ⟨(lg_cmp_eq _ _).mp w, (lg_cmp_eq _ _).mp y⟩, fun y => yes ⟨p1, p2, fun x => y ((lg_cmp_eq _ _).mpr x.2)⟩⟩⟩⟩) (fun n => ⟨fun _ => no fun x => n x.2.1, fun q => absurd rfl q⟩)⟩) (fun n => ⟨fun _ => no fun x => n x.1, fun q => absurd rfl q⟩)
end ROP
