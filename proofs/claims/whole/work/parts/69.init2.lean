/-- the empty document -/
def d0 : DS := (fun _ _ => 0, fun _ _ => 0, fun _ _ => 0)
theorem d0_n (f i : Nat) : dN d0 f i = 0 := rfl
theorem WF_0 : WF d0 := by
  refine ⟨⟨by decide, by decide, by decide, by decide, by decide, by decide, by decide⟩, ?_, ?_, ?_, ?_, ?_, ?_, ?_⟩ <;> intro t ht <;> exact absurd ht (Nat.not_lt_zero _)
theorem TT_0 (x y : Nat) : ¬ TT d0 x y := by
  have a0 : ∀ w, ¬ ali d0 w := fun w h => Nat.not_lt_zero _ h.1
  have i0 : ∀ a, ¬ isp d0 a := fun a h => by
    rcases h with w | w
    · exact Nat.not_lt_zero _ w
    · have := w.2; rw [show nL d0 = 0 from rfl] at this; omega
  rintro (⟨v, w, h, _⟩ | ⟨v, w, k, h, _⟩ | ⟨w, h, _⟩ | ⟨h, _⟩)
  · exact a0 v h
  · exact Nat.not_lt_zero _ h
  · exact a0 w h
  · exact i0 x h
theorem SC_0 (x y : Nat) : ¬ SC d0 x y := by
  rintro (⟨t, a, b, h, _⟩ | ⟨b, t, i, h, _⟩ | ⟨k, h, _⟩) <;> exact Nat.not_lt_zero _ h
theorem vR_0 (k : Nat) : ¬ vR d0 k := fun h => Nat.not_lt_zero _ h.1
theorem cnt_0 : cnt d0 = 0 := by
  unfold cnt
  rw [cn_skip (m := 0) (by omega) fun k _ _ h => vR_0 k h.1, cn_0]
theorem lL_z2 {Z : Nat → Nat} {h h' : HS} {l : Nat} (L : ∀ e f, lL Z h l e 0 f) (c : ce h h' l) (e : Nat) (f : Nat → Nat) : lL Z h' l e 0 f := by
  have hz : gR h 900 l = some (Z 0) := by
    obtain ⟨l1, l2, l3, l4, l5⟩ := L l id
    rcases l4 with w | w
    · exact w.1
    · have := w.2.1; omega
  exact ⟨by rw [c.T]; exact (L e f).1, by rw [c.I]; exact (L e f).2.1, by omega, Or.inl ⟨by rw [c.R]; exact hz, rfl⟩, fun i hi => absurd hi (Nat.not_lt_zero _)⟩
section INJ
variable {Z : Nat → Nat} {vx : Nat} {h : HS}
theorem k_init {post : HS → Prop} (hv : gT h vx = 16) (f14 : gI h 14 vx = 0) (f17 : gI h 17 vx = 0) (kk : ∀ A B h', KS Z vx A B h' d0 (fun _ => False) → post h') : wp_NJ_init Z post h vx := by
  refine st_list (B := (fun _ => (0, 0))) hv fun q0 h0 B0 S0 F0 L0 b0 v0 => ?_
  refine st_list (B := B0) F0.1 fun q1 h1 B1 S1 F1 L1 b1 v1 => ?_
  refine st_list (B := B1) F1.1 fun q2 h2 B2 S2 F2 L2 b2 v2 => ?_
  refine st_list (B := B2) F2.1 fun q3 h3 B3 S3 F3 L3 b3 v3 => ?_
  refine st_list (B := B3) F3.1 fun q4 h4 B4 S4 F4 L4 b4 v4 => ?_
  refine st_list (B := B4) F4.1 fun q5 h5 B5 S5 F5 L5 b5 v5 => ?_
  refine st_list (B := B5) F5.1 fun q6 h6 B6 S6 F6 L6 b6 v6 => ?_
  refine st_list (B := B6) F6.1 fun q7 h7 B7 S7 F7 L7 b7 v7 => ?_
  refine st_ary (B := B7) (ro := (10, 0)) (by decide) F7.1 fun q8 h8 B8 S8 F8 t8 n8 z8 b8 v8 => ?_
  refine st_joins (B := B8) (ro := 11) (R := 1) (L := 220) (by decide) (by decide) (by decide) F8.1 fun q9 u9 row9 h9 B9 S9 F9 J9 b9 c9 e9 v9 w9 x9 => ?_
  refine st_joins (B := B9) (ro := 13) (R := 17) (L := 1060) (by decide) (by decide) (by decide) F9.1 fun q10 u10 row10 h10 B10 S10 F10 J10 b10 c10 e10 v10 w10 x10 => ?_
  refine st_tab (B := B10) F10.1 fun q11 a1 a2 a3 a4 a5 h11 B11 S11 F11 t11 r1 r2 r3 r4 r5 z1 z4 i5 i6 b11 => ?_
  refine st_ary (B := B11) (ro := (16, 0)) (by decide) F11.1 fun q12 h12 B12 S12 F12 t12 n12 z12 b12 v12 => ?_
  refine st_ary (B := B12) (ro := (16, 1)) (by decide) F12.1 fun q13 h13 B13 S13 F13 t13 n13 z13 b13 v13 => ?_
  refine st_ary (B := B13) (ro := (16, 2)) (by decide) F13.1 fun q14 h14 B14 S14 F14 t14 n14 z14 b14 v14 => ?_
  have E13 := S14
  have E12 := S13.tr E13
  have E11 := S12.tr E12
  have E10 := S11.tr E11
  have E9 := S10.tr E10
  have E8 := S9.tr E9
  have E7 := S8.tr E8
  have E6 := S7.tr E7
  have E5 := S6.tr E6
  have E4 := S5.tr E5
  have E3 := S4.tr E4
  have E2 := S3.tr E3
  have E1 := S2.tr E2
  have E0 := S1.tr E1
  have hvx := S0.tr E0 vx (by rw [hv]; decide)
  obtain ⟨-, eb0, ec0⟩ := E0 q0 (by rw [(L0 0 id).1]; decide)
  obtain ⟨-, eb1, ec1⟩ := E1 q1 (by rw [(L1 0 id).1]; decide)
  obtain ⟨-, eb2, ec2⟩ := E2 q2 (by rw [(L2 0 id).1]; decide)
  obtain ⟨-, eb3, ec3⟩ := E3 q3 (by rw [(L3 0 id).1]; decide)
  obtain ⟨-, eb4, ec4⟩ := E4 q4 (by rw [(L4 0 id).1]; decide)
  obtain ⟨-, eb5, ec5⟩ := E5 q5 (by rw [(L5 0 id).1]; decide)
  obtain ⟨-, eb6, ec6⟩ := E6 q6 (by rw [(L6 0 id).1]; decide)
  obtain ⟨-, eb7, ec7⟩ := E7 q7 (by rw [(L7 0 id).1]; decide)
  obtain ⟨-, eb8, ec8⟩ := E8 q8 (by rw [t8]; decide)
  have ec8 := ec8 v8
  have g0 : gR h14 0 vx = some q0 := by simp [F14.2.1, F13.2.1, F12.2.1, F11.2.1, F10.2.1, F9.2.1, F8.2.1, F7.2.1, F6.2.1, F5.2.1, F4.2.1, F3.2.1, F2.2.1, F1.2.1, F0.2.1]
  have g1 : gR h14 1 vx = some q1 := by simp [F14.2.1, F13.2.1, F12.2.1, F11.2.1, F10.2.1, F9.2.1, F8.2.1, F7.2.1, F6.2.1, F5.2.1, F4.2.1, F3.2.1, F2.2.1, F1.2.1, F0.2.1]
  have g2 : gR h14 2 vx = some q2 := by simp [F14.2.1, F13.2.1, F12.2.1, F11.2.1, F10.2.1, F9.2.1, F8.2.1, F7.2.1, F6.2.1, F5.2.1, F4.2.1, F3.2.1, F2.2.1, F1.2.1, F0.2.1]
  have g3 : gR h14 3 vx = some q3 := by simp [F14.2.1, F13.2.1, F12.2.1, F11.2.1, F10.2.1, F9.2.1, F8.2.1, F7.2.1, F6.2.1, F5.2.1, F4.2.1, F3.2.1, F2.2.1, F1.2.1, F0.2.1]
  have g4 : gR h14 4 vx = some q4 := by simp [F14.2.1, F13.2.1, F12.2.1, F11.2.1, F10.2.1, F9.2.1, F8.2.1, F7.2.1, F6.2.1, F5.2.1, F4.2.1, F3.2.1, F2.2.1, F1.2.1, F0.2.1]
  have g5 : gR h14 5 vx = some q5 := by simp [F14.2.1, F13.2.1, F12.2.1, F11.2.1, F10.2.1, F9.2.1, F8.2.1, F7.2.1, F6.2.1, F5.2.1, F4.2.1, F3.2.1, F2.2.1, F1.2.1, F0.2.1]
  have g6 : gR h14 6 vx = some q6 := by simp [F14.2.1, F13.2.1, F12.2.1, F11.2.1, F10.2.1, F9.2.1, F8.2.1, F7.2.1, F6.2.1, F5.2.1, F4.2.1, F3.2.1, F2.2.1, F1.2.1, F0.2.1]
  have g7 : gR h14 7 vx = some q7 := by simp [F14.2.1, F13.2.1, F12.2.1, F11.2.1, F10.2.1, F9.2.1, F8.2.1, F7.2.1, F6.2.1, F5.2.1, F4.2.1, F3.2.1, F2.2.1, F1.2.1, F0.2.1]
  have g8 : gR h14 8 vx = some q8 := by simp [F14.2.1, F13.2.1, F12.2.1, F11.2.1, F10.2.1, F9.2.1, F8.2.1, F7.2.1, F6.2.1, F5.2.1, F4.2.1, F3.2.1, F2.2.1, F1.2.1, F0.2.1]
  have g9 : gR h14 9 vx = some q9 := by simp [F14.2.1, F13.2.1, F12.2.1, F11.2.1, F10.2.1, F9.2.1]
  have g10 : gR h14 10 vx = some q10 := by simp [F14.2.1, F13.2.1, F12.2.1, F11.2.1, F10.2.1, F9.2.1]
  have g11 : gR h14 11 vx = some q11 := by simp [F14.2.1, F13.2.1, F12.2.1, F11.2.1, F10.2.1, F9.2.1]
  have g12 : gR h14 12 vx = some q12 := by simp [F14.2.1, F13.2.1, F12.2.1, F11.2.1, F10.2.1, F9.2.1]
  have g13 : gR h14 13 vx = some q13 := by simp [F14.2.1, F13.2.1, F12.2.1, F11.2.1, F10.2.1, F9.2.1]
  have g15 : gR h14 15 vx = some q14 := by simp [F14.2.1, F13.2.1, F12.2.1, F11.2.1, F10.2.1, F9.2.1]
  have fI : ∀ f, gI h14 f vx = gI h f vx := fun f => by rw [F14.2.2, F13.2.2, F12.2.2, F11.2.2, F10.2.2, F9.2.2, F8.2.2, F7.2.2, F6.2.2, F5.2.2, F4.2.2, F3.2.2, F2.2.2, F1.2.2, F0.2.2]
  obtain ⟨A, hA⟩ : ∃ A : Nat → Nat → Nat, (∀ k, (A 1 k = if k = 0 then q0 else if k = 1 then q1 else if k = 2 then q2 else if k = 3 then q3 else if k = 4 then q4 else if k = 5 then q5 else if k = 6 then q6 else q7) ∧ A 2 k = A 1 k) ∧ A 10 0 = q8 ∧ (A 11 0 = q9 ∧ A 11 1 = u9 ∧ A 12 = row9) ∧ (A 13 0 = q10 ∧ A 13 1 = u10 ∧ A 14 = row10) ∧ (A 15 0 = q11 ∧ A 15 1 = a1 ∧ A 15 2 = a2 ∧ A 15 3 = a3 ∧ A 15 4 = a4 ∧ A 15 5 = a5) ∧ A 16 0 = q12 ∧ A 16 1 = q13 ∧ A 16 2 = q14 := by
    refine ⟨fun r k => if r = 1 ∨ r = 2 then (if k = 0 then q0 else if k = 1 then q1 else if k = 2 then q2 else if k = 3 then q3 else if k = 4 then q4 else if k = 5 then q5 else if k = 6 then q6 else q7) else if r = 10 then q8 else if r = 11 then (if k = 0 then q9 else u9) else if r = 12 then row9 k else if r = 13 then (if k = 0 then q10 else u10) else if r = 14 then row10 k else if r = 15 then (if k = 0 then q11 else if k = 1 then a1 else if k = 2 then a2 else if k = 3 then a3 else if k = 4 then a4 else a5) else if k = 0 then q12 else if k = 1 then q13 else q14, ?_⟩
    refine ⟨fun k => ⟨by simp, by simp⟩, by simp, ⟨by simp, by simp, by funext k; simp⟩, ⟨by simp, by simp, by funext k; simp⟩, ⟨by simp, by simp, by simp, by simp, by simp, by simp⟩, by simp, by simp, by simp⟩
  obtain ⟨hA1, hA10, ⟨hA11, hA111, hA12⟩, ⟨hA13, hA131, hA14⟩, ⟨h150, h151, h152, h153, h154, h155⟩, h160, h161, h162⟩ := hA
  have bx : B14 vx = (0, 0) := hvx.2.1
  have lists : ∀ k, k < 8 → gR h14 k vx = some (A 1 k) ∧ B14 (A 1 k) = (1, k) ∧ (∀ e f, lL Z h14 (A 1 k) e 0 f) := by
    intro k hk
    have hk' : k = 0 ∨ k = 1 ∨ k = 2 ∨ k = 3 ∨ k = 4 ∨ k = 5 ∨ k = 6 ∨ k = 7 := by omega
    rcases hk' with rfl | rfl | rfl | rfl | rfl | rfl | rfl | rfl
    · have e : A 1 0 = q0 := by rw [(hA1 0).1]; simp
      rw [e]; exact ⟨g0, by rw [eb0]; exact b0, fun e f => lL_z2 L0 (ec0 v0) e f⟩
    · have e : A 1 1 = q1 := by rw [(hA1 1).1]; simp
      rw [e]; exact ⟨g1, by rw [eb1]; exact b1, fun e f => lL_z2 L1 (ec1 v1) e f⟩
    · have e : A 1 2 = q2 := by rw [(hA1 2).1]; simp
      rw [e]; exact ⟨g2, by rw [eb2]; exact b2, fun e f => lL_z2 L2 (ec2 v2) e f⟩
    · have e : A 1 3 = q3 := by rw [(hA1 3).1]; simp
      rw [e]; exact ⟨g3, by rw [eb3]; exact b3, fun e f => lL_z2 L3 (ec3 v3) e f⟩
    · have e : A 1 4 = q4 := by rw [(hA1 4).1]; simp
      rw [e]; exact ⟨g4, by rw [eb4]; exact b4, fun e f => lL_z2 L4 (ec4 v4) e f⟩
    · have e : A 1 5 = q5 := by rw [(hA1 5).1]; simp
      rw [e]; exact ⟨g5, by rw [eb5]; exact b5, fun e f => lL_z2 L5 (ec5 v5) e f⟩
    · have e : A 1 6 = q6 := by rw [(hA1 6).1]; simp
      rw [e]; exact ⟨g6, by rw [eb6]; exact b6, fun e f => lL_z2 L6 (ec6 v6) e f⟩
    · have e : A 1 7 = q7 := by rw [(hA1 7).1]; simp
      rw [e]; exact ⟨g7, by rw [eb7]; exact b7, fun e f => lL_z2 L7 (ec7 v7) e f⟩
  have E9' : ∀ a, gT h9 a ≠ 0 → a ≠ vx → ce h9 h14 a ∧ B14 a = B9 a := fun a h1 h2 => ⟨(E9 a h1).2.2 h2, (E9 a h1).2.1⟩
  have E10' : ∀ a, gT h10 a ≠ 0 → a ≠ vx → ce h10 h14 a ∧ B14 a = B10 a := fun a h1 h2 => ⟨(E10 a h1).2.2 h2, (E10 a h1).2.1⟩
  have T9 : TJ vx A B14 h14 (fun n => n) := by
    obtain ⟨⟨j1, j2, j3, j4, j5, j6, j7⟩, -⟩ := id J9
    unfold TJ
    rw [hA11, hA111, hA12]
    refine ⟨g9, ⟨bx, by rw [(E9' q9 (by rw [j1]; decide) v9).2]; exact b9, by rw [(E9' u9 (by rw [j3]; decide) w9).2]; exact c9, by rw [(E9' (row9 0) (by rw [(j6 0 (by omega)).2.1]; decide) (x9 0 (by omega))).2]; exact e9 0 (by omega)⟩, J9.frame fun a ha => ?_⟩
    rcases ha with rfl | rfl | ⟨r, hr, rfl⟩
    · exact (E9' _ (by rw [j1]; decide) v9).1
    · exact (E9' _ (by rw [j3]; decide) w9).1
    · exact (E9' _ (by rw [(j6 r hr).2.1]; decide) (x9 r hr)).1
  have T10 : JJ vx A B14 h14 0 (fun n => n) := by
    obtain ⟨⟨j1, j2, j3, j4, j5, j6, j7⟩, -⟩ := id J10
    have jl0 : (fun r => if r = 0 then 1060 else 0) = jl 0 := by
      funext r; unfold jl
      by_cases z : r = 0
      · rw [if_pos z, if_pos z]
      · rw [if_neg z, if_neg z, if_neg (by omega)]
    rw [jl0] at J10
    unfold JJ
    rw [hA13, hA131, hA14]
    refine ⟨g10, ⟨bx, by rw [(E10' q10 (by rw [j1]; decide) v10).2]; exact b10, by rw [(E10' u10 (by rw [j3]; decide) w10).2]; exact c10, fun r hr => by rw [(E10' (row10 r) (by rw [(j6 r hr).2.1]; decide) (x10 r hr)).2]; exact e10 r hr⟩, J10.frame fun a ha => ?_⟩
    rcases ha with rfl | rfl | ⟨r, hr, rfl⟩
    · exact (E10' _ (by rw [j1]; decide) v10).1
    · exact (E10' _ (by rw [j3]; decide) w10).1
    · exact (E10' _ (by rw [(j6 r hr).2.1]; decide) (x10 r hr)).1
  have nx : ∀ a, B14 a ≠ (0, 0) → a ≠ vx := fun a ha e => ha (by rw [e]; exact bx)
  have E11' : ∀ a, gT h11 a ≠ 0 → B11 a ≠ (0, 0) → ce h11 h14 a ∧ B14 a = B11 a := fun a h1 h2 => ⟨(E11 a h1).2.2 (nx a (by rw [(E11 a h1).2.1]; exact h2)), (E11 a h1).2.1⟩
  obtain ⟨bb0, bb1, bb2, bb3, bb4, bb5⟩ := b11
  have w0 := E11' q11 (by rw [t11]; decide) (by rw [bb0]; intro w; cases w)
  have w1 := E11' a1 (by rw [r1.2.1]; decide) (by rw [bb1]; intro w; cases w)
  have w2 := E11' a2 (by rw [r2.2.1]; decide) (by rw [bb2]; intro w; cases w)
  have w3 := E11' a3 (by rw [r3.2.1]; decide) (by rw [bb3]; intro w; cases w)
  have w4 := E11' a4 (by rw [r4.2.1]; decide) (by rw [bb4]; intro w; cases w)
  have w5 := E11' a5 (by rw [r5.2.1]; decide) (by rw [bb5]; intro w; cases w)
  have T11 : TS vx A B14 h14 := by
    refine ⟨⟨by rw [h150]; exact g11, bx, fun i hi => ?_⟩, by rw [h150, w0.1.T]; exact t11, ⟨by rw [h150, h151, w0.1.R]; exact r1.1, by rw [h151, w1.1.T]; exact r1.2.1, by rw [h151, w1.1.N]; exact r1.2.2⟩, ⟨by rw [h150, h152, w0.1.R]; exact r2.1, by rw [h152, w2.1.T]; exact r2.2.1, by rw [h152, w2.1.N]; exact r2.2.2⟩, ⟨by rw [h150, h153, w0.1.R]; exact r3.1, by rw [h153, w3.1.T]; exact r3.2.1, by rw [h153, w3.1.N]; exact r3.2.2⟩, ⟨by rw [h150, h154, w0.1.R]; exact r4.1, by rw [h154, w4.1.T]; exact r4.2.1, by rw [h154, w4.1.N]; exact r4.2.2⟩, ⟨by rw [h150, h155, w0.1.R]; exact r5.1, by rw [h155, w5.1.T]; exact r5.2.1, by rw [h155, w5.1.N]; exact r5.2.2⟩⟩
    have hi' : i = 0 ∨ i = 1 ∨ i = 2 ∨ i = 3 ∨ i = 4 ∨ i = 5 := by omega
    rcases hi' with rfl | rfl | rfl | rfl | rfl | rfl
    · rw [h150, w0.2]; exact bb0
    · rw [h151, w1.2]; exact bb1
    · rw [h152, w2.2]; exact bb2
    · rw [h153, w3.2]; exact bb3
    · rw [h154, w4.2]; exact bb4
    · rw [h155, w5.2]; exact bb5
  have N11 : NT d0 A h14 960 := by
    refine ⟨gA h14 (A 15 1), gA h14 (A 15 3), gA h14 (A 15 4), 0, ⟨rfl, rfl, rfl, ?_, ?_⟩, by omega, fun k _ v => absurd v (vR_0 k), fun n hn => ?_, fun j hj _ => ?_⟩
    · rw [h150, w0.1.I, i5, show cn (fst d0) 960 = 0 from cnt_0]; rfl
    · rw [h150, w0.1.I, i6]; rfl
    · rw [h154, w4.1.A, z4, cn_skip (m := 0) (by omega) fun k _ _ w => vR_0 k w.1, cn_0]; rfl
    · rw [h151, w1.1.A]; exact z1 j hj
  have x12 := E12 q12 (by rw [t12]; decide)
  have x13 := E13 q13 (by rw [t13]; decide)
  have N12 : NA vx A B14 h14 := by
    unfold NA
    rw [h160, h161, h162]
    exact ⟨⟨g12, by rw [x12.2.1]; exact b12, by rw [(x12.2.2 v12).T]; exact t12, by rw [(x12.2.2 v12).N]; exact n12⟩, ⟨g13, by rw [x13.2.1]; exact b13, by rw [(x13.2.2 v13).T]; exact t13, by rw [(x13.2.2 v13).N]; exact n13⟩, ⟨g15, b14, t14, n14⟩⟩
  have C14 : CD Z vx A B14 h14 d0 := by
    refine ⟨⟨F14.1, bx, fun k hk => ⟨(lists k hk).1, (lists k hk).2.1, ((lists k hk).2.2 0 id).1, Or.inr (hA1 k).2⟩⟩, fun r h3 h9 => ⟨?_, fun i hi => absurd hi (Nat.not_lt_zero _)⟩, by rw [hA10]; exact g8, by rw [hA10, eb8]; exact b8, by rw [hA10, ec8.T]; exact t8, by rw [hA10, ec8.N]; exact n8, fun n hn => by rw [hA10, ec8.A, z8]; rfl⟩
    exact (lists (lsr r) (lsr_lt r)).2.2 _ _
  refine kk A B14 h14 ⟨WF_0, ⟨fun _ _ => rfl, fun _ _ => rfl⟩, ⟨id, ⟨fun i hi => absurd hi (Nat.not_lt_zero _), fun i hi => absurd hi (Nat.not_lt_zero _), fun i j _ hj => absurd hj (Nat.not_lt_zero _)⟩, ⟨C14, ⟨fun n => n, T9, LD.id.mo (fun _ _ w => w.elim) fun x y w => absurd w (TT_0 x y)⟩, fun n => n, T10, LD.id.mo (fun _ _ w => w.elim) fun x y w => absurd w (SC_0 x y)⟩, fun k hk => ?_, T11, N11, (lists 4 (by omega)).2.2 _ _, N12⟩, ?_, fun w => absurd (by rw [fI]; exact f14) w, fun w => absurd (by rw [fI]; exact f17) w⟩
  · rw [(hA1 k).2, ((lists k hk).2.2 0 id).1]; decide
  · intro n hn; rw [cnt_0] at hn; omega
end INJ
