section ROQ
variable {Z : Nat → Nat} {vm : Nat} {R : Nat → Nat} {B : Nat → Nat × Nat} {h h' : HS} {d : DS} {ch : Nat → Prop}
theorem r_junction {post : Int32 → HS → Prop} {x1 : Int32} {a b : Int64} (hd : WF d) (K : KR vm R B h d ch) (kk : ∀ n r s h', o_junction (d, ch) x1 a b = (n, r, s) → KR vm R B h' s.1 s.2 → gI h' 800 vm = nI n → sm20 B h h' → post r h') : wp_Mod_junction Z post h vm x1 a b := by
  have hS := hd.1.1
  have hJ := hd.1.2.2.1
  have body : ∀ x2 : Int32, ((x2 = 1 ∧ plA a b) ∨ (x2 = 0 ∧ ¬ plA a b)) → (gT h vm = 24 ∧ (wp_Mod_refusal Z (fun r3 h4 => gT h4 vm = 24 ∧ (∀ h7, h7 = sI h4 800 vm r3 → (gT h7 vm = 24 ∧ ((¬ (gI h7 800 vm) = 0 → (post (0 : Int32) h7)) ∧ ((gI h7 800 vm) = 0 → (gT h7 vm = 24 ∧ ((¬ (gI h7 808 vm) = (50 : Int32) → (lp (wb_Mod_junction_36 Z post vm) (x1, a, b, (0 : Int32), h7))) ∧ ((gI h7 808 vm) = (50 : Int32) → (post (0 : Int32) h7))))))))) h vm x1 x2)) := by
    intro x2 hx
    have bad : ∀ (Q : HS → Prop) (n : Nat), n = 1 ∨ n = 2 ∨ n = 3 → o_junction (d, ch) x1 a b = (n, 0, (d, ch)) → ∀ h7, h7 = sI h 800 vm (nI n) → gT h7 vm = 24 ∧ ((¬ (gI h7 800 vm) = 0 → (post (0 : Int32) h7)) ∧ ((gI h7 800 vm) = 0 → Q h7)) := by
      intro Q n hn eo h7 e7
      obtain ⟨K7, t7, s7⟩ := K.thr e7
      refine ⟨K7.1.1, fun _ => kk n 0 _ h7 eo K7 t7 s7, fun w => absurd w ?_⟩
      rw [t7, nI_z (by omega)]; omega
    refine ⟨K.1.1, r_refusal hd K.1 K.2.1 hx (fun n => ⟨K.1.1, bad _ 1 (by omega) (o_ref1 n)⟩) (fun k q1 q2 q3 => ⟨K.1.1, bad _ 2 (by omega) (o_ref2 hS q1 q2 q3)⟩) (fun k q1 q2 q3 => ⟨K.1.1, bad _ 3 (by omega) (o_ref3 q1 q2 q3)⟩) (fun k q1 q2 q3 => ⟨K.1.1, ?_⟩)⟩
    intro h7 e7
    obtain ⟨K7, t7, s7⟩ := K.thr e7
    clear e7
    have eo : o_junction (d, ch) x1 a b = cif (nJ d = 50 ∨ ∃ k, k < nJ d ∧ jSh d k = tn x1 ∧ jX d k = a ∧ jY d k = b) (0, 0, (d, ch)) (0, 1, nx (d, ch) (dJu d (tn x1) a b)) := o_ref0 q1 q2 q3
    have kl := q1.1
    subst q2
    rw [tn_nI (by omega)] at eo
    obtain ⟨S7, D7, -⟩ := id K7
    have n7 := D7.1.2.2.1
    refine ⟨S7.1, fun w => absurd t7 w, fun _ => ⟨S7.1, ?_⟩⟩
    rw [n7, show (50 : Int32) = nI 50 from rfl, nI_eq (by omega) (by omega)]
    refine ⟨fun nf => ?_, fun f => kk 0 0 _ h7 (by rw [eo, cif_t (Or.inl f)]) K7 t7 s7⟩
    refine lp_inv (fun q => ∃ i, i ≤ nJ d ∧ q = (nI k, a, b, nI i, h7) ∧ ∀ j, j < i → ¬ (jSh d j = k ∧ jX d j = a ∧ jY d j = b)) (fun q => nJ d - q.2.2.2.1.toNatClampNeg) ?_ _ ⟨0, by omega, rfl, fun j hj => absurd hj (Nat.not_lt_zero _)⟩
    rintro q K3 ⟨i, hi, rfl, o⟩ hK
    have next : i < nJ d → ¬ (jSh d i = k ∧ jX d i = a ∧ jY d i = b) → wj_Mod_junction_89 Z post K3 vm (nI k) a b (nI i) h7 := by
      intro z w
      rintro y rfl
      refine hK _ ⟨i + 1, by omega, by rw [nI_1], fun j hj => ?_⟩ ?_
      · by_cases y : j = i
        · subst y; exact w
        · exact o j (by omega)
      · dsimp only
        rw [nI_1, jr_cl (by omega), jr_cl (by omega)]; omega
    unfold wb_Mod_junction_36
    dsimp only
    refine ⟨S7.1, ?_⟩
    rw [n7]
    refine pk_le (nJ d) i (fun z => ⟨S7.1, S7.1, S7.rd 809 1 (nJ d) rfl (by decide) (by show nJ d < 50; omega) ?_⟩) (fun z => ⟨S7.1, S7.rd 809 1 i rfl (by decide) (by show i < 50; omega) ?_⟩)
    · rw [cif_f (by rintro (w | ⟨j, w1, w2⟩); exact nf w; exact o j (by omega) w2)] at eo
      intro g1 e1
      rw [jr_cl (by omega)] at e1
      obtain ⟨S1, s1, I1, c1, a1⟩ := S7.wA (by decide) e1
      clear e1
      refine ⟨S1.1, S1.1, ?_⟩
      rw [I1, n7, show (2 : Int32) = nI 2 from rfl, pk_mul]
      refine S1.rd 810 3 (2 * nJ d) rfl (by decide) (by show 2 * nJ d < 100; omega) ?_
      intro g2 e2
      rw [jr_cl (by omega)] at e2
      obtain ⟨S2, s2, I2, c2, l2, -⟩ := S1.wL (by decide) e2
      clear e2
      refine ⟨S2.1, S2.1, ?_⟩
      rw [I2, I1, n7, pk_mul, show (1 : Int32) = nI 1 from rfl, nI_add]
      refine S2.rd 810 3 (2 * nJ d + 1) rfl (by decide) (by show 2 * nJ d + 1 < 100; omega) ?_
      intro g3 e3
      rw [jr_cl (by omega)] at e3
      obtain ⟨S3, s3, I3, c3, l3, -⟩ := S2.wL (by decide) e3
      clear e3
      refine ⟨S3.1, S3.1, ?_⟩
      intro g6 e6
      rw [I3, I2, I1, n7, nI_add] at e6
      obtain ⟨S6, s6, I6, c6⟩ := S3.wI e6
      clear e6
      have I : ∀ g, gI g6 g vm = if g = 808 then nI (nJ d + 1) else gI h7 g vm := fun g => by rw [I6, I3, I2, I1]
      have c26 : ∀ g, g ≠ 810 → rK g ≠ 0 → ce g1 g6 (R g) := fun g h1 h2 => ce_tr (c2 g h1 h2) (ce_tr (c3 g h1 h2) (c6 g h2))
      have D6 : RD vm R g6 (dJu d k a b) := by
        refine rd_ju k a b D7 (fun g _ _ => I g) (fun g h1 h2 h3 h4 h5 => ?_) (fun j => ?_) (fun j => ?_)
        · have := ce_tr (c1 g h4 h3) (c26 g h5 h3)
          exact ⟨this.A, this.L⟩
        · rw [(c26 809 (by omega) (by decide)).A, a1]
        · rw [(c6 810 (by decide)).L, l3, l2, (c1 810 (by omega) (by decide)).L]
      have O6 : OLD vm R g6 d := K7.old (by rw [I, if_neg (by omega)]) (by rw [(c26 827 (by omega) (by decide)).A, (c1 827 (by omega) (by decide)).A])
      exact ⟨S6.1, r_anew hd (WF_ju hd q1 (by omega)) S6 D6 O6 fun h9 K9 _ i9 s9 => kk 0 _ _ h9 eo K9 (by rw [i9 800 (by omega) (by omega) (by omega), I, if_neg (by omega)]; exact t7) (sm_tr s7 (sm_tr s1 (sm_tr s2 (sm_tr s3 (sm_tr s6 s9)))))⟩
    · obtain ⟨j1, j2, j3⟩ := D7.2.2.2.1 i z
      have js := (hd.2.2.2.1 i z).1
      rw [jr_cl (by omega), j1, nI_eq (by omega) (by omega)]
      refine ⟨fun e => next z fun w => e w.1, fun e => ?_⟩
      rw [show (2 : Int32) = nI 2 from rfl, pk_mul, show (1 : Int32) = nI 1 from rfl, nI_add, jr_cl (by omega), jr_cl (by omega)]
      refine ⟨S7.1, S7.rd 810 3 (2 * i) rfl (by decide) (by show 2 * i < 100; omega) ?_⟩
      rw [j2]
      refine ⟨fun f => next z fun w => f ((lg_cmp_eq _ _).mpr w.2.1), fun f => ⟨S7.1, S7.rd 810 3 (2 * i + 1) rfl (by decide) (by show 2 * i + 1 < 100; omega) ?_⟩⟩
      rw [j3]
      exact ⟨fun g => next z fun w => g ((lg_cmp_eq _ _).mpr w.2.2), fun g => kk 0 0 _ h7 (by rw [eo, cif_t (Or.inr ⟨i, z, e, (lg_cmp_eq _ _).mp f, (lg_cmp_eq _ _).mp g⟩)]) K7 t7 s7⟩
  exact r_isPlace (fun p => body 1 (Or.inl ⟨rfl, p⟩)) (fun p => body 0 (Or.inr ⟨rfl, p⟩))
theorem r_label {post : Int32 → HS → Prop} {x1 x6 : Int32} {a b : Int64} (hd : WF d) (K : KR vm R B h d ch) (kk : ∀ n r s h', o_label (d, ch) x1 a b x6 = (n, r, s) → KR vm R B h' s.1 s.2 → gI h' 800 vm = nI n → sm20 B h h' → post r h') : wp_Mod_label Z post h vm x1 a b x6 := by
  have hS := hd.1.1
  have hL := hd.1.2.2.2.1
  have body : ∀ x2 : Int32, ((x2 = 1 ∧ (plA a b ∧ isN x6)) ∨ (x2 = 0 ∧ ¬ (plA a b ∧ isN x6))) → wj_Mod_label_25 Z post vm x1 a b x6 x2 x1 (some vm) (some vm) h := by
    intro x2 hx
    have bad : ∀ (Q : HS → Prop) (n : Nat), n = 1 ∨ n = 2 ∨ n = 3 → o_label (d, ch) x1 a b x6 = (n, 0, (d, ch)) → ∀ h7, h7 = sI h 800 vm (nI n) → gT h7 vm = 24 ∧ (((gI h7 800 vm) = 0 → Q h7) ∧ (¬ (gI h7 800 vm) = 0 → (post (0 : Int32) h7))) := by
      intro Q n hn eo h7 e7
      obtain ⟨K7, t7, s7⟩ := K.thr e7
      refine ⟨K7.1.1, fun w => absurd w ?_, fun _ => kk n 0 _ h7 eo K7 t7 s7⟩
      rw [t7, nI_z (by omega)]; omega
    refine ⟨vm, rfl, K.1.1, r_refusal hd K.1 K.2.1 hx (fun n => ⟨vm, rfl, K.1.1, bad _ 1 (by omega) (o_ref1 n)⟩) (fun k q1 q2 q3 => ⟨vm, rfl, K.1.1, bad _ 2 (by omega) (o_ref2 hS q1 q2 q3)⟩) (fun k q1 q2 q3 => ⟨vm, rfl, K.1.1, bad _ 3 (by omega) (o_ref3 q1 q2 q3)⟩) (fun k q1 q2 q3 => ⟨vm, rfl, K.1.1, ?_⟩)⟩
    intro h7 e7
    obtain ⟨K7, t7, s7⟩ := K.thr e7
    clear e7
    have eo : o_label (d, ch) x1 a b x6 = cif (nL d = 60) (0, -1, (d, ch)) (0, nI (nL d), nx (d, ch) (dLa d (tn x1) a b (tn x6))) := o_ref0 q1 q2 q3
    have kl := q1.1
    subst q2
    obtain ⟨nm, nl, rfl⟩ := q3.2
    rw [tn_nI (n := k) (by omega), tn_nI (n := nm) (by omega)] at eo
    obtain ⟨S7, D7, -⟩ := id K7
    have n7 := D7.1.2.2.2.1
    refine ⟨S7.1, fun _ => ⟨S7.1, ?_⟩, fun w => absurd t7 w⟩
    rw [n7, show (60 : Int32) = nI 60 from rfl, nI_eq (by omega) (by omega)]
    refine ⟨fun nf => ⟨S7.1, S7.1, S7.rd 812 1 (nL d) rfl (by decide) (by show nL d < 60; omega) ?_⟩, fun f => kk 0 (-1) _ h7 (by rw [eo, cif_t f]) K7 t7 s7⟩
    rw [cif_f nf] at eo
    intro g1 e1
    rw [jr_cl (by omega)] at e1
    obtain ⟨S1, s1, I1, c1, a1⟩ := S7.wA (by decide) e1
    clear e1
    refine ⟨S1.1, S1.1, ?_⟩
    rw [I1, n7]
    refine S1.rd 813 1 (nL d) rfl (by decide) (by show nL d < 60; omega) ?_
    intro g2 e2
    rw [jr_cl (by omega)] at e2
    obtain ⟨S2, s2, I2, c2, a2⟩ := S1.wA (by decide) e2
    clear e2
    refine ⟨S2.1, S2.1, ?_⟩
    rw [I2, I1, n7, show (2 : Int32) = nI 2 from rfl, pk_mul]
    refine S2.rd 814 3 (2 * nL d) rfl (by decide) (by show 2 * nL d < 120; omega) ?_
    intro g3 e3
    rw [jr_cl (by omega)] at e3
    obtain ⟨S3, s3, I3, c3, l3, -⟩ := S2.wL (by decide) e3
    clear e3
    refine ⟨S3.1, S3.1, ?_⟩
    rw [I3, I2, I1, n7, pk_mul, show (1 : Int32) = nI 1 from rfl, nI_add]
    refine S3.rd 814 3 (2 * nL d + 1) rfl (by decide) (by show 2 * nL d + 1 < 120; omega) ?_
    intro g4 e4
    rw [jr_cl (by omega)] at e4
    obtain ⟨S4, s4, I4, c4, l4, -⟩ := S3.wL (by decide) e4
    clear e4
    refine ⟨S4.1, S4.1, ?_⟩
    intro g6 e6
    rw [I4, I3, I2, I1, n7, nI_add] at e6
    obtain ⟨S6, s6, I6, c6⟩ := S4.wI e6
    clear e6
    have I : ∀ g, gI g6 g vm = if g = 811 then nI (nL d + 1) else gI h7 g vm := fun g => by rw [I6, I4, I3, I2, I1]
    have c36 : ∀ g, g ≠ 814 → rK g ≠ 0 → ce g2 g6 (R g) := fun g h1 h2 => ce_tr (c3 g h1 h2) (ce_tr (c4 g h1 h2) (c6 g h2))
    have D6 : RD vm R g6 (dLa d k a b nm) := by
      refine rd_la k a b nm D7 (fun g _ _ => I g) (fun g h1 h2 h3 h4 h5 h6 => ?_) (fun j => ?_) (fun j => ?_) (fun j => ?_)
      · have := ce_tr (c1 g h4 h3) (ce_tr (c2 g h5 h3) (c36 g h6 h3))
        exact ⟨this.A, this.L⟩
      · rw [(c36 812 (by omega) (by decide)).A, (c2 812 (by omega) (by decide)).A, a1]
      · rw [(c36 813 (by omega) (by decide)).A, a2, (c1 813 (by omega) (by decide)).A]
      · rw [(c6 814 (by decide)).L, l4, l3, (c2 814 (by omega) (by decide)).L, (c1 814 (by omega) (by decide)).L]
    have O6 : OLD vm R g6 d := K7.old (by rw [I, if_neg (by omega)]) (by rw [(c36 827 (by omega) (by decide)).A, (c2 827 (by omega) (by decide)).A, (c1 827 (by omega) (by decide)).A])
    refine ⟨S6.1, r_anew hd (WF_la hd q1 nl (by omega)) S6 D6 O6 fun h9 K9 _ i9 s9 => ⟨K9.1.1, ?_⟩⟩
    rw [K9.2.1.1.2.2.2.1, show nL (dLa d k a b nm) = nL d + 1 from by simp [dLa, dN_eN, dL_eL, dI_eI, dL_eN, dI_eN, dN_eL, dI_eL, dN_eI, dL_eI, nS, nW, nJ, nL, nP, nO, nU, bas, wSh, wDr, jSh, lSh, lNm, pSh, pOp, oSh, oLb, oNm, uSh, uNm, uFr, uTo, wX, wY, wX2, wY2, jX, jY, lX, lY, pX, pY, par, pPt, rnk]]
    show post (nI (nL d + 1) - nI 1) h9
    rw [pk_sub (by omega), show nL d + 1 - 1 = nL d from by omega]
    exact kk 0 _ _ h9 eo K9 (by rw [i9 800 (by omega) (by omega) (by omega), I, if_neg (by omega)]; exact t7) (sm_tr s7 (sm_tr s1 (sm_tr s2 (sm_tr s3 (sm_tr s4 (sm_tr s6 s9))))))
  have no : ¬ (plA a b ∧ isN x6) → wj_Mod_label_24 Z post vm x1 a b x6 x1 (some vm) (some vm) h := fun w => body 0 (Or.inr ⟨rfl, w⟩)
  exact r_isPlace (fun p1 => ⟨fun q => absurd q (by decide), fun _ => r_isName (fun p2 => ⟨fun q => absurd q (by decide), fun _ => body 1 (Or.inl ⟨rfl, p1, p2⟩)⟩) (fun n => ⟨fun _ => no fun x => n x.2, fun q => absurd rfl q⟩)⟩) (fun n => ⟨fun _ => no fun x => n x.1, fun q => absurd rfl q⟩)
theorem r_pin {post : Int32 → HS → Prop} {x1 x6 : Int32} {a b : Int64} (hd : WF d) (z0 : pOp d (nP d) = 0) (K : KR vm R B h d ch) (kk : ∀ n r s h', o_pin (d, ch) x1 a b x6 = (n, r, s) → KR vm R B h' s.1 s.2 → gI h' 800 vm = nI n → sm20 B h h' → post r h') : wp_Mod_pin Z post h vm x1 a b x6 := by
  have hS := hd.1.1
  have hP := hd.1.2.2.2.2.1
  have body : ∀ x2 : Int32, ((x2 = 1 ∧ plA a b) ∨ (x2 = 0 ∧ ¬ plA a b)) → (gT h vm = 24 ∧ (wp_Mod_refusal Z (fun r3 h4 => gT h4 vm = 24 ∧ (∀ h7, h7 = sI h4 800 vm r3 → (gT h7 vm = 24 ∧ (((gI h7 800 vm) = 0 → (gT h7 vm = 24 ∧ ((¬ (gI h7 815 vm) = (60 : Int32) → (lp (wb_Mod_pin_38 Z post vm) (x1, a, b, x6, (0 : Int32), h7))) ∧ ((gI h7 815 vm) = (60 : Int32) → (post (-1 : Int32) h7))))) ∧ (¬ (gI h7 800 vm) = 0 → (post (0 : Int32) h7)))))) h vm x1 x2)) := by
    intro x2 hx
    have bad : ∀ (Q : HS → Prop) (n : Nat), n = 1 ∨ n = 2 ∨ n = 3 → o_pin (d, ch) x1 a b x6 = (n, 0, (d, ch)) → ∀ h7, h7 = sI h 800 vm (nI n) → gT h7 vm = 24 ∧ (((gI h7 800 vm) = 0 → Q h7) ∧ (¬ (gI h7 800 vm) = 0 → (post (0 : Int32) h7))) := by
      intro Q n hn eo h7 e7
      obtain ⟨K7, t7, s7⟩ := K.thr e7
      refine ⟨K7.1.1, fun w => absurd w ?_, fun _ => kk n 0 _ h7 eo K7 t7 s7⟩
      rw [t7, nI_z (by omega)]; omega
    refine ⟨K.1.1, r_refusal hd K.1 K.2.1 hx (fun n => ⟨K.1.1, bad _ 1 (by omega) (o_ref1 n)⟩) (fun k q1 q2 q3 => ⟨K.1.1, bad _ 2 (by omega) (o_ref2 hS q1 q2 q3)⟩) (fun k q1 q2 q3 => ⟨K.1.1, bad _ 3 (by omega) (o_ref3 q1 q2 q3)⟩) (fun k q1 q2 q3 => ⟨K.1.1, ?_⟩)⟩
    intro h7 e7
    obtain ⟨K7, t7, s7⟩ := K.thr e7
    clear e7
    have eo : o_pin (d, ch) x1 a b x6 = cif (nP d = 60 ∨ ∃ k, k < nP d ∧ pSh d k = tn x1 ∧ pPt d k = x6 ∧ pX d k = a ∧ pY d k = b) (0, -1, (d, ch)) (0, nI (nP d), nx (d, ch) (dPi d (tn x1) a b x6)) := o_ref0 q1 q2 q3
    have kl := q1.1
    subst q2
    rw [tn_nI (by omega)] at eo
    obtain ⟨S7, D7, -⟩ := id K7
    have n7 := D7.1.2.2.2.2.1
    refine ⟨S7.1, fun _ => ⟨S7.1, ?_⟩, fun w => absurd t7 w⟩
    rw [n7, show (60 : Int32) = nI 60 from rfl, nI_eq (by omega) (by omega)]
    refine ⟨fun nf => ?_, fun f => kk 0 (-1) _ h7 (by rw [eo, cif_t (Or.inl f)]) K7 t7 s7⟩
    refine lp_inv (fun q => ∃ i, i ≤ nP d ∧ q = (nI k, a, b, x6, nI i, h7) ∧ ∀ j, j < i → ¬ (pSh d j = k ∧ pPt d j = x6 ∧ pX d j = a ∧ pY d j = b)) (fun q => nP d - q.2.2.2.2.1.toNatClampNeg) ?_ _ ⟨0, by omega, rfl, fun j hj => absurd hj (Nat.not_lt_zero _)⟩
    rintro q K3 ⟨i, hi, rfl, o⟩ hK
    have next : i < nP d → ¬ (pSh d i = k ∧ pPt d i = x6 ∧ pX d i = a ∧ pY d i = b) → wj_Mod_pin_103 Z post K3 vm (nI k) a b x6 (nI i) h7 := by
      intro z w
      rintro y rfl
      refine hK _ ⟨i + 1, by omega, by rw [nI_1], fun j hj => ?_⟩ ?_
      · by_cases y : j = i
        · subst y; exact w
        · exact o j (by omega)
      · dsimp only
        rw [nI_1, jr_cl (by omega), jr_cl (by omega)]; omega
    unfold wb_Mod_pin_38
    dsimp only
    refine ⟨S7.1, ?_⟩
    rw [n7]
    refine pk_le (nP d) i (fun z => ⟨S7.1, S7.1, S7.rd 816 1 (nP d) rfl (by decide) (by show nP d < 60; omega) ?_⟩) (fun z => ⟨S7.1, S7.rd 816 1 i rfl (by decide) (by show i < 60; omega) ?_⟩)
    · rw [cif_f (by rintro (w | ⟨j, w1, w2⟩); exact nf w; exact o j (by omega) w2)] at eo
      intro g1 e1
      rw [jr_cl (by omega)] at e1
      obtain ⟨S1, s1, I1, c1, a1⟩ := S7.wA (by decide) e1
      clear e1
      refine ⟨S1.1, S1.1, ?_⟩
      rw [I1, n7]
      refine S1.rd 817 1 (nP d) rfl (by decide) (by show nP d < 60; omega) ?_
      intro g2 e2
      rw [jr_cl (by omega)] at e2
      obtain ⟨S2, s2, I2, c2, a2⟩ := S1.wA (by decide) e2
      clear e2
      refine ⟨S2.1, S2.1, ?_⟩
      rw [I2, I1, n7, show (2 : Int32) = nI 2 from rfl, pk_mul]
      refine S2.rd 818 3 (2 * nP d) rfl (by decide) (by show 2 * nP d < 120; omega) ?_
      intro g3 e3
      rw [jr_cl (by omega)] at e3
      obtain ⟨S3, s3, I3, c3, l3, -⟩ := S2.wL (by decide) e3
      clear e3
      refine ⟨S3.1, S3.1, ?_⟩
      rw [I3, I2, I1, n7, pk_mul, show (1 : Int32) = nI 1 from rfl, nI_add]
      refine S3.rd 818 3 (2 * nP d + 1) rfl (by decide) (by show 2 * nP d + 1 < 120; omega) ?_
      intro g4 e4
      rw [jr_cl (by omega)] at e4
      obtain ⟨S4, s4, I4, c4, l4, -⟩ := S3.wL (by decide) e4
      clear e4
      refine ⟨S4.1, S4.1, ?_⟩
      intro g6 e6
      rw [I4, I3, I2, I1, n7, nI_add] at e6
      obtain ⟨S6, s6, I6, c6⟩ := S4.wI e6
      clear e6
      have I : ∀ g, gI g6 g vm = if g = 815 then nI (nP d + 1) else gI h7 g vm := fun g => by rw [I6, I4, I3, I2, I1]
      have c36 : ∀ g, g ≠ 818 → rK g ≠ 0 → ce g2 g6 (R g) := fun g h1 h2 => ce_tr (c3 g h1 h2) (ce_tr (c4 g h1 h2) (c6 g h2))
      have D6 : RD vm R g6 (dPi d k a b x6) := by
        refine rd_pi k a b x6 D7 (fun g _ _ => I g) (fun g h1 h2 h3 h4 h5 h6 => ?_) (fun j => ?_) (fun j => ?_) (fun j => ?_)
        · have := ce_tr (c1 g h4 h3) (ce_tr (c2 g h5 h3) (c36 g h6 h3))
          exact ⟨this.A, this.L⟩
        · rw [(c36 816 (by omega) (by decide)).A, (c2 816 (by omega) (by decide)).A, a1]
        · rw [(c36 817 (by omega) (by decide)).A, a2, (c1 817 (by omega) (by decide)).A]
        · rw [(c6 818 (by decide)).L, l4, l3, (c2 818 (by omega) (by decide)).L, (c1 818 (by omega) (by decide)).L]
      have O6 : OLD vm R g6 d := K7.old (by rw [I, if_neg (by omega)]) (by rw [(c36 827 (by omega) (by decide)).A, (c2 827 (by omega) (by decide)).A, (c1 827 (by omega) (by decide)).A])
      refine ⟨S6.1, r_anew hd (WF_pi hd q1 (by omega) z0) S6 D6 O6 fun h9 K9 _ i9 s9 => ⟨K9.1.1, ?_⟩⟩
      rw [K9.2.1.1.2.2.2.2.1, show nP (dPi d k a b x6) = nP d + 1 from by simp [dPi, dN_eN, dL_eL, dI_eI, dL_eN, dI_eN, dN_eL, dI_eL, dN_eI, dL_eI, nS, nW, nJ, nL, nP, nO, nU, bas, wSh, wDr, jSh, lSh, lNm, pSh, pOp, oSh, oLb, oNm, uSh, uNm, uFr, uTo, wX, wY, wX2, wY2, jX, jY, lX, lY, pX, pY, par, pPt, rnk]]
      show post (nI (nP d + 1) - nI 1) h9
      rw [pk_sub (by omega), show nP d + 1 - 1 = nP d from by omega]
      exact kk 0 _ _ h9 eo K9 (by rw [i9 800 (by omega) (by omega) (by omega), I, if_neg (by omega)]; exact t7) (sm_tr s7 (sm_tr s1 (sm_tr s2 (sm_tr s3 (sm_tr s4 (sm_tr s6 s9))))))
    · obtain ⟨j1, j4, j2, j3⟩ := D7.2.2.2.2.2.1.1 i z
      have js := (hd.2.2.2.2.2.1 i z).1
      rw [jr_cl (by omega), j1, nI_eq (by omega) (by omega)]
      refine ⟨fun e => next z fun w => e w.1, fun e => ⟨S7.1, S7.rd 817 1 i rfl (by decide) (by show i < 60; omega) ?_⟩⟩
      rw [j4]
      refine ⟨fun e2 => next z fun w => e2 w.2.1, fun e2 => ?_⟩
      rw [show (2 : Int32) = nI 2 from rfl, pk_mul, show (1 : Int32) = nI 1 from rfl, nI_add, jr_cl (by omega), jr_cl (by omega)]
      refine ⟨S7.1, S7.rd 818 3 (2 * i) rfl (by decide) (by show 2 * i < 120; omega) ?_⟩
      rw [j2]
      refine ⟨fun f => next z fun w => f ((lg_cmp_eq _ _).mpr w.2.2.1), fun f => ⟨S7.1, S7.rd 818 3 (2 * i + 1) rfl (by decide) (by show 2 * i + 1 < 120; omega) ?_⟩⟩
      rw [j3]
      exact ⟨fun g => next z fun w => g ((lg_cmp_eq _ _).mpr w.2.2.2), fun g => kk 0 (-1) _ h7 (by rw [eo, cif_t (Or.inr ⟨i, z, e, e2, (lg_cmp_eq _ _).mp f, (lg_cmp_eq _ _).mp g⟩)]) K7 t7 s7⟩
  exact r_isPlace (fun p => body 1 (Or.inl ⟨rfl, p⟩)) (fun p => body 0 (Or.inr ⟨rfl, p⟩))
end ROQ
