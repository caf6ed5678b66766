section RIN
variable {Z : Nat → Nat} {vx vm : Nat} {h h' : HS} {A : Nat → Nat → Nat} {B B' : Nat → Nat × Nat} {K : HS → Prop} {d : DS} {ch : Nat → Prop}
theorem KS.go (K : KS Z vx A B h d ch) (c : ce h h' vx) (b : B' vx = (0, 0)) (m : mv 1 16 A A B B' h h') : KS Z vx A B' h' d ch := by
  obtain ⟨hd, z, ⟨pm, hp, X, V, T, N, Q, M⟩, I, F1, F2⟩ := K
  have v := cvx.of c
  obtain ⟨X', V'⟩ := X.go V v b (m.sub (by omega) (by omega))
  obtain ⟨T', t1, t2⟩ := T.go v b (m.sub (by omega) (by omega))
  obtain ⟨M', m1, m2⟩ := M.go v (m.sub (by omega) (by omega))
  refine ⟨hd, z, ⟨pm, hp, X', V', T', N.go t1 t2, Q.go X.1 V (m.sub (by omega) (by omega)), M'⟩, I.go t1 t2, fun w => ?_, fun w => ?_⟩
  · rw [c.I] at w
    have := F1 w
    unfold NL at this ⊢
    rw [(m1 0 (by omega)).A, (m1 1 (by omega)).A]; exact this
  · rw [c.I] at w
    have := F2 w
    unfold RL at this ⊢
    rw [(m1 2 (by omega)).A, c.I]; exact this
theorem sr_ary {ty L f : Nat} (ht : ty ≠ 0) (hv : gT h vm = 24) (kk : ∀ q h' B', nst vm h B h' B' → (gT h' vm = 24 ∧ (∀ g, gR h' g vm = if g = f then some q else gR h g vm) ∧ ∀ g, gI h' g vm = gI h g vm) → gT h' q = ty → gN h' q = L → (∀ i, gA h' q i = 0) → B' q = (20, f) → q ≠ vm → K h') : ∀ q, gT h q = 0 → ∀ h2, h2 = nH h q ty L → gT h2 vm = 24 ∧ ∀ h4, h4 = sR h2 f vm (some q) → K h4 := by
  intro q hq h2 e2
  have qv : q ≠ vm := fun e => by rw [e, hv] at hq; omega
  have s2 : ∀ a, a ≠ q → ce h h2 a := fun a ha => by rw [e2]; exact ce_nH ha
  have cx := s2 vm (Ne.symm qv)
  refine ⟨by rw [cx.T]; exact hv, ?_⟩
  intro h6 e6
  have c6 : ∀ a, a ≠ vm → ce h2 h6 a := fun a ha => by rw [e6]; exact ce_sR ha
  have cq := c6 q qv
  refine kk q h6 (fun a => if a = q then (20, f) else B a) (fun a ha => ?_) ⟨by rw [e6, gT_sR, cx.T]; exact hv, fun g => ?_, fun g => by rw [e6, gI_sR, cx.I]⟩ (by rw [cq.T, e2, gT_nH2, if_pos rfl]) (by rw [cq.N, e2, gN_nH2, if_pos rfl]) (fun i => by rw [cq.A, e2, gA_nH2, if_pos rfl]) (if_pos rfl) qv
  · have aq : a ≠ q := fun w => ha (by rw [w]; exact hq)
    have c := s2 a aq
    refine ⟨?_, if_neg aq, fun w => ce_tr c (c6 a w)⟩
    by_cases w : a = vm
    · rw [w, e6, gT_sR, cx.T, hv]; decide
    · rw [(c6 a w).T, c.T]; exact ha
  · rw [e6, gR_sR]
    by_cases w : g = f
    · rw [if_pos ⟨w, rfl⟩, if_pos w]
    · rw [if_neg (fun y => w y.1), if_neg w, cx.R]
set_option maxHeartbeats 1000000 in
theorem r_init {post : HS → Prop} (hv : gT h vm = 24) (hz : ∀ g, gI h g vm = 0) (hb : B vm = (20, 0)) (kk : ∀ R B' h', KR vm R B' h' d0 (fun _ => False) → nst vm h B h' B' → post h') : wp_Mod_init Z post h vm := by
  refine sr_ary (B := B) (f := 802) (by decide) hv fun q0 h0 B0 S0 F0 t0 n0 z0 b0 v0 => ?_
  refine sr_ary (B := B0) (f := 803) (by decide) F0.1 fun q1 h1 B1 S1 F1 t1 n1 z1 b1 v1 => ?_
  refine sr_ary (B := B1) (f := 805) (by decide) F1.1 fun q2 h2 B2 S2 F2 t2 n2 z2 b2 v2 => ?_
  refine sr_ary (B := B2) (f := 806) (by decide) F2.1 fun q3 h3 B3 S3 F3 t3 n3 z3 b3 v3 => ?_
  refine sr_ary (B := B3) (f := 807) (by decide) F3.1 fun q4 h4 B4 S4 F4 t4 n4 z4 b4 v4 => ?_
  refine sr_ary (B := B4) (f := 809) (by decide) F4.1 fun q5 h5 B5 S5 F5 t5 n5 z5 b5 v5 => ?_
  refine sr_ary (B := B5) (f := 810) (by decide) F5.1 fun q6 h6 B6 S6 F6 t6 n6 z6 b6 v6 => ?_
  refine sr_ary (B := B6) (f := 812) (by decide) F6.1 fun q7 h7 B7 S7 F7 t7 n7 z7 b7 v7 => ?_
  refine sr_ary (B := B7) (f := 813) (by decide) F7.1 fun q8 h8 B8 S8 F8 t8 n8 z8 b8 v8 => ?_
  refine sr_ary (B := B8) (f := 814) (by decide) F8.1 fun q9 h9 B9 S9 F9 t9 n9 z9 b9 v9 => ?_
  refine sr_ary (B := B9) (f := 816) (by decide) F9.1 fun q10 h10 B10 S10 F10 t10 n10 z10 b10 v10 => ?_
  refine sr_ary (B := B10) (f := 817) (by decide) F10.1 fun q11 h11 B11 S11 F11 t11 n11 z11 b11 v11 => ?_
  refine sr_ary (B := B11) (f := 818) (by decide) F11.1 fun q12 h12 B12 S12 F12 t12 n12 z12 b12 v12 => ?_
  refine sr_ary (B := B12) (f := 819) (by decide) F12.1 fun q13 h13 B13 S13 F13 t13 n13 z13 b13 v13 => ?_
  refine sr_ary (B := B13) (f := 821) (by decide) F13.1 fun q14 h14 B14 S14 F14 t14 n14 z14 b14 v14 => ?_
  refine sr_ary (B := B14) (f := 823) (by decide) F14.1 fun q15 h15 B15 S15 F15 t15 n15 z15 b15 v15 => ?_
  refine sr_ary (B := B15) (f := 824) (by decide) F15.1 fun q16 h16 B16 S16 F16 t16 n16 z16 b16 v16 => ?_
  refine sr_ary (B := B16) (f := 825) (by decide) F16.1 fun q17 h17 B17 S17 F17 t17 n17 z17 b17 v17 => ?_
  refine sr_ary (B := B17) (f := 826) (by decide) F17.1 fun q18 h18 B18 S18 F18 t18 n18 z18 b18 v18 => ?_
  refine sr_ary (B := B18) (f := 827) (by decide) F18.1 fun q19 h19 B19 S19 F19 t19 n19 z19 b19 v19 => ?_
  refine sr_ary (B := B19) (f := 828) (by decide) F19.1 fun q20 h20 B20 S20 F20 t20 n20 z20 b20 v20 => ?_
  refine sr_ary (B := B20) (f := 830) (by decide) F20.1 fun q21 h21 B21 S21 F21 t21 n21 z21 b21 v21 => ?_
  have E20 := S21
  have E19 := S20.tr E20
  have E18 := S19.tr E19
  have E17 := S18.tr E18
  have E16 := S17.tr E17
  have E15 := S16.tr E16
  have E14 := S15.tr E15
  have E13 := S14.tr E14
  have E12 := S13.tr E13
  have E11 := S12.tr E12
  have E10 := S11.tr E11
  have E9 := S10.tr E10
  have E8 := S9.tr E9
  have E7 := S8.tr E8
  have E6 := S7.tr E7
  have E5 := S6.tr E6
  have E4 := S5.tr E5
  have E3 := S4.tr E4
  have E2 := S3.tr E3
  have E1 := S2.tr E2
  have E0 := S1.tr E1
  have Eh := S0.tr E0
  have fI : ∀ g, gI h21 g vm = 0 := fun g => by rw [F21.2.2, F20.2.2, F19.2.2, F18.2.2, F17.2.2, F16.2.2, F15.2.2, F14.2.2, F13.2.2, F12.2.2, F11.2.2, F10.2.2, F9.2.2, F8.2.2, F7.2.2, F6.2.2, F5.2.2, F4.2.2, F3.2.2, F2.2.2, F1.2.2, F0.2.2]; exact hz g
  obtain ⟨R, hR⟩ : ∃ R : Nat → Nat, ∀ f, R f = if f = 802 then q0 else if f = 803 then q1 else if f = 805 then q2 else if f = 806 then q3 else if f = 807 then q4 else if f = 809 then q5 else if f = 810 then q6 else if f = 812 then q7 else if f = 813 then q8 else if f = 814 then q9 else if f = 816 then q10 else if f = 817 then q11 else if f = 818 then q12 else if f = 819 then q13 else if f = 821 then q14 else if f = 823 then q15 else if f = 824 then q16 else if f = 825 then q17 else if f = 826 then q18 else if f = 827 then q19 else if f = 828 then q20 else q21 := ⟨_, fun _ => rfl⟩
  have r0 : R 802 = q0 := by rw [hR]; simp
  have g0 : gR h21 802 vm = some q0 := by simp [F21.2.1, F20.2.1, F19.2.1, F18.2.1, F17.2.1, F16.2.1, F15.2.1, F14.2.1, F13.2.1, F12.2.1, F11.2.1, F10.2.1, F9.2.1, F8.2.1, F7.2.1, F6.2.1, F5.2.1, F4.2.1, F3.2.1, F2.2.1, F1.2.1, F0.2.1]
  obtain ⟨-, y0, x0⟩ := E0 q0 (by rw [t0]; decide)
  have x0 := x0 v0
  have r1 : R 803 = q1 := by rw [hR]; simp
  have g1 : gR h21 803 vm = some q1 := by simp [F21.2.1, F20.2.1, F19.2.1, F18.2.1, F17.2.1, F16.2.1, F15.2.1, F14.2.1, F13.2.1, F12.2.1, F11.2.1, F10.2.1, F9.2.1, F8.2.1, F7.2.1, F6.2.1, F5.2.1, F4.2.1, F3.2.1, F2.2.1, F1.2.1]
  obtain ⟨-, y1, x1⟩ := E1 q1 (by rw [t1]; decide)
  have x1 := x1 v1
  have r2 : R 805 = q2 := by rw [hR]; simp
  have g2 : gR h21 805 vm = some q2 := by simp [F21.2.1, F20.2.1, F19.2.1, F18.2.1, F17.2.1, F16.2.1, F15.2.1, F14.2.1, F13.2.1, F12.2.1, F11.2.1, F10.2.1, F9.2.1, F8.2.1, F7.2.1, F6.2.1, F5.2.1, F4.2.1, F3.2.1, F2.2.1]
  obtain ⟨-, y2, x2⟩ := E2 q2 (by rw [t2]; decide)
  have x2 := x2 v2
  have r3 : R 806 = q3 := by rw [hR]; simp
  have g3 : gR h21 806 vm = some q3 := by simp [F21.2.1, F20.2.1, F19.2.1, F18.2.1, F17.2.1, F16.2.1, F15.2.1, F14.2.1, F13.2.1, F12.2.1, F11.2.1, F10.2.1, F9.2.1, F8.2.1, F7.2.1, F6.2.1, F5.2.1, F4.2.1, F3.2.1]
  obtain ⟨-, y3, x3⟩ := E3 q3 (by rw [t3]; decide)
  have x3 := x3 v3
  have r4 : R 807 = q4 := by rw [hR]; simp
  have g4 : gR h21 807 vm = some q4 := by simp [F21.2.1, F20.2.1, F19.2.1, F18.2.1, F17.2.1, F16.2.1, F15.2.1, F14.2.1, F13.2.1, F12.2.1, F11.2.1, F10.2.1, F9.2.1, F8.2.1, F7.2.1, F6.2.1, F5.2.1, F4.2.1]
  obtain ⟨-, y4, x4⟩ := E4 q4 (by rw [t4]; decide)
  have x4 := x4 v4
  have r5 : R 809 = q5 := by rw [hR]; simp
  have g5 : gR h21 809 vm = some q5 := by simp [F21.2.1, F20.2.1, F19.2.1, F18.2.1, F17.2.1, F16.2.1, F15.2.1, F14.2.1, F13.2.1, F12.2.1, F11.2.1, F10.2.1, F9.2.1, F8.2.1, F7.2.1, F6.2.1, F5.2.1]
  obtain ⟨-, y5, x5⟩ := E5 q5 (by rw [t5]; decide)
  have x5 := x5 v5
  have r6 : R 810 = q6 := by rw [hR]; simp
  have g6 : gR h21 810 vm = some q6 := by simp [F21.2.1, F20.2.1, F19.2.1, F18.2.1, F17.2.1, F16.2.1, F15.2.1, F14.2.1, F13.2.1, F12.2.1, F11.2.1, F10.2.1, F9.2.1, F8.2.1, F7.2.1, F6.2.1]
  obtain ⟨-, y6, x6⟩ := E6 q6 (by rw [t6]; decide)
  have x6 := x6 v6
  have r7 : R 812 = q7 := by rw [hR]; simp
  have g7 : gR h21 812 vm = some q7 := by simp [F21.2.1, F20.2.1, F19.2.1, F18.2.1, F17.2.1, F16.2.1, F15.2.1, F14.2.1, F13.2.1, F12.2.1, F11.2.1, F10.2.1, F9.2.1, F8.2.1, F7.2.1]
  obtain ⟨-, y7, x7⟩ := E7 q7 (by rw [t7]; decide)
  have x7 := x7 v7
  have r8 : R 813 = q8 := by rw [hR]; simp
  have g8 : gR h21 813 vm = some q8 := by simp [F21.2.1, F20.2.1, F19.2.1, F18.2.1, F17.2.1, F16.2.1, F15.2.1, F14.2.1, F13.2.1, F12.2.1, F11.2.1, F10.2.1, F9.2.1, F8.2.1]
  obtain ⟨-, y8, x8⟩ := E8 q8 (by rw [t8]; decide)
  have x8 := x8 v8
  have r9 : R 814 = q9 := by rw [hR]; simp
  have g9 : gR h21 814 vm = some q9 := by simp [F21.2.1, F20.2.1, F19.2.1, F18.2.1, F17.2.1, F16.2.1, F15.2.1, F14.2.1, F13.2.1, F12.2.1, F11.2.1, F10.2.1, F9.2.1]
  obtain ⟨-, y9, x9⟩ := E9 q9 (by rw [t9]; decide)
  have x9 := x9 v9
  have r10 : R 816 = q10 := by rw [hR]; simp
  have g10 : gR h21 816 vm = some q10 := by simp [F21.2.1, F20.2.1, F19.2.1, F18.2.1, F17.2.1, F16.2.1, F15.2.1, F14.2.1, F13.2.1, F12.2.1, F11.2.1, F10.2.1]
  obtain ⟨-, y10, x10⟩ := E10 q10 (by rw [t10]; decide)
  have x10 := x10 v10
  have r11 : R 817 = q11 := by rw [hR]; simp
  have g11 : gR h21 817 vm = some q11 := by simp [F21.2.1, F20.2.1, F19.2.1, F18.2.1, F17.2.1, F16.2.1, F15.2.1, F14.2.1, F13.2.1, F12.2.1, F11.2.1]
  obtain ⟨-, y11, x11⟩ := E11 q11 (by rw [t11]; decide)
  have x11 := x11 v11
  have r12 : R 818 = q12 := by rw [hR]; simp
  have g12 : gR h21 818 vm = some q12 := by simp [F21.2.1, F20.2.1, F19.2.1, F18.2.1, F17.2.1, F16.2.1, F15.2.1, F14.2.1, F13.2.1, F12.2.1]
  obtain ⟨-, y12, x12⟩ := E12 q12 (by rw [t12]; decide)
  have x12 := x12 v12
  have r13 : R 819 = q13 := by rw [hR]; simp
  have g13 : gR h21 819 vm = some q13 := by simp [F21.2.1, F20.2.1, F19.2.1, F18.2.1, F17.2.1, F16.2.1, F15.2.1, F14.2.1, F13.2.1]
  obtain ⟨-, y13, x13⟩ := E13 q13 (by rw [t13]; decide)
  have x13 := x13 v13
  have r14 : R 821 = q14 := by rw [hR]; simp
  have g14 : gR h21 821 vm = some q14 := by simp [F21.2.1, F20.2.1, F19.2.1, F18.2.1, F17.2.1, F16.2.1, F15.2.1, F14.2.1]
  obtain ⟨-, y14, x14⟩ := E14 q14 (by rw [t14]; decide)
  have x14 := x14 v14
  have r15 : R 823 = q15 := by rw [hR]; simp
  have g15 : gR h21 823 vm = some q15 := by simp [F21.2.1, F20.2.1, F19.2.1, F18.2.1, F17.2.1, F16.2.1, F15.2.1]
  obtain ⟨-, y15, x15⟩ := E15 q15 (by rw [t15]; decide)
  have x15 := x15 v15
  have r16 : R 824 = q16 := by rw [hR]; simp
  have g16 : gR h21 824 vm = some q16 := by simp [F21.2.1, F20.2.1, F19.2.1, F18.2.1, F17.2.1, F16.2.1]
  obtain ⟨-, y16, x16⟩ := E16 q16 (by rw [t16]; decide)
  have x16 := x16 v16
  have r17 : R 825 = q17 := by rw [hR]; simp
  have g17 : gR h21 825 vm = some q17 := by simp [F21.2.1, F20.2.1, F19.2.1, F18.2.1, F17.2.1]
  obtain ⟨-, y17, x17⟩ := E17 q17 (by rw [t17]; decide)
  have x17 := x17 v17
  have r18 : R 826 = q18 := by rw [hR]; simp
  have g18 : gR h21 826 vm = some q18 := by simp [F21.2.1, F20.2.1, F19.2.1, F18.2.1]
  obtain ⟨-, y18, x18⟩ := E18 q18 (by rw [t18]; decide)
  have x18 := x18 v18
  have r19 : R 827 = q19 := by rw [hR]; simp
  have g19 : gR h21 827 vm = some q19 := by simp [F21.2.1, F20.2.1, F19.2.1]
  obtain ⟨-, y19, x19⟩ := E19 q19 (by rw [t19]; decide)
  have x19 := x19 v19
  have r20 : R 828 = q20 := by rw [hR]; simp
  have g20 : gR h21 828 vm = some q20 := by simp [F21.2.1, F20.2.1]
  obtain ⟨-, y20, x20⟩ := E20 q20 (by rw [t20]; decide)
  have x20 := x20 v20
  have r21 : R 830 = q21 := by rw [hR]; simp
  have g21 : gR h21 830 vm = some q21 := by simp [F21.2.1]
  have RS0 : RS vm R B21 h21 := by
    refine ⟨F21.1, by rw [(Eh vm (by rw [hv]; decide)).2.1]; exact hb, fun f hf => ?_⟩
    have hf' : f = 802 ∨ f = 803 ∨ f = 805 ∨ f = 806 ∨ f = 807 ∨ f = 809 ∨ f = 810 ∨ f = 812 ∨ f = 813 ∨ f = 814 ∨ f = 816 ∨ f = 817 ∨ f = 818 ∨ f = 819 ∨ f = 821 ∨ f = 823 ∨ f = 824 ∨ f = 825 ∨ f = 826 ∨ f = 827 ∨ f = 828 ∨ f = 830 := by
      unfold rK at hf
      repeat' split at hf
      all_goals omega
    rcases hf' with rfl | rfl | rfl | rfl | rfl | rfl | rfl | rfl | rfl | rfl | rfl | rfl | rfl | rfl | rfl | rfl | rfl | rfl | rfl | rfl | rfl | rfl
    · rw [r0]; exact ⟨g0, by rw [y0]; exact b0, by rw [x0.T]; exact t0, by rw [x0.N]; exact n0⟩
    · rw [r1]; exact ⟨g1, by rw [y1]; exact b1, by rw [x1.T]; exact t1, by rw [x1.N]; exact n1⟩
    · rw [r2]; exact ⟨g2, by rw [y2]; exact b2, by rw [x2.T]; exact t2, by rw [x2.N]; exact n2⟩
    · rw [r3]; exact ⟨g3, by rw [y3]; exact b3, by rw [x3.T]; exact t3, by rw [x3.N]; exact n3⟩
    · rw [r4]; exact ⟨g4, by rw [y4]; exact b4, by rw [x4.T]; exact t4, by rw [x4.N]; exact n4⟩
    · rw [r5]; exact ⟨g5, by rw [y5]; exact b5, by rw [x5.T]; exact t5, by rw [x5.N]; exact n5⟩
    · rw [r6]; exact ⟨g6, by rw [y6]; exact b6, by rw [x6.T]; exact t6, by rw [x6.N]; exact n6⟩
    · rw [r7]; exact ⟨g7, by rw [y7]; exact b7, by rw [x7.T]; exact t7, by rw [x7.N]; exact n7⟩
    · rw [r8]; exact ⟨g8, by rw [y8]; exact b8, by rw [x8.T]; exact t8, by rw [x8.N]; exact n8⟩
    · rw [r9]; exact ⟨g9, by rw [y9]; exact b9, by rw [x9.T]; exact t9, by rw [x9.N]; exact n9⟩
    · rw [r10]; exact ⟨g10, by rw [y10]; exact b10, by rw [x10.T]; exact t10, by rw [x10.N]; exact n10⟩
    · rw [r11]; exact ⟨g11, by rw [y11]; exact b11, by rw [x11.T]; exact t11, by rw [x11.N]; exact n11⟩
    · rw [r12]; exact ⟨g12, by rw [y12]; exact b12, by rw [x12.T]; exact t12, by rw [x12.N]; exact n12⟩
    · rw [r13]; exact ⟨g13, by rw [y13]; exact b13, by rw [x13.T]; exact t13, by rw [x13.N]; exact n13⟩
    · rw [r14]; exact ⟨g14, by rw [y14]; exact b14, by rw [x14.T]; exact t14, by rw [x14.N]; exact n14⟩
    · rw [r15]; exact ⟨g15, by rw [y15]; exact b15, by rw [x15.T]; exact t15, by rw [x15.N]; exact n15⟩
    · rw [r16]; exact ⟨g16, by rw [y16]; exact b16, by rw [x16.T]; exact t16, by rw [x16.N]; exact n16⟩
    · rw [r17]; exact ⟨g17, by rw [y17]; exact b17, by rw [x17.T]; exact t17, by rw [x17.N]; exact n17⟩
    · rw [r18]; exact ⟨g18, by rw [y18]; exact b18, by rw [x18.T]; exact t18, by rw [x18.N]; exact n18⟩
    · rw [r19]; exact ⟨g19, by rw [y19]; exact b19, by rw [x19.T]; exact t19, by rw [x19.N]; exact n19⟩
    · rw [r20]; exact ⟨g20, by rw [y20]; exact b20, by rw [x20.T]; exact t20, by rw [x20.N]; exact n20⟩
    · rw [r21]; exact ⟨g21, b21, t21, n21⟩
  have RD0 : RD vm R h21 d0 := by
    refine ⟨⟨fI _, fI _, fI _, fI _, fI _, fI _, fI _⟩, fun t ht => absurd ht (Nat.not_lt_zero _), ⟨fun t ht => absurd ht (Nat.not_lt_zero _), fun w _ => ?_⟩, fun t ht => absurd ht (Nat.not_lt_zero _), fun t ht => absurd ht (Nat.not_lt_zero _), ⟨fun t ht => absurd ht (Nat.not_lt_zero _), fun p _ => ?_⟩, fun t ht => absurd ht (Nat.not_lt_zero _), fun t ht => absurd ht (Nat.not_lt_zero _), fun n _ => ?_⟩
    · rw [r4, x4.A, z4]; rfl
    · rw [r13, x13.A, z13]; rfl
    · rw [r16, x16.A, z16]; rfl
  refine kk R B21 h21 ⟨RS0, RD0, by rw [fI, cnt_0]; rfl, fun n hn => ?_, Or.inl ⟨fI _, rfl, rfl, rfl⟩⟩ Eh
  rw [cnt_0] at hn; exact absurd hn (Nat.not_lt_zero _)
end RIN
