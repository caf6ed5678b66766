/-! ONE THING MORE -/
def upA (A : Nat → Nat → Nat) (r n q k e : Nat) : Nat → Nat → Nat := fun r' i => if r' = r ∧ i = n then q else if r' = 2 ∧ i = k then e else A r' i
def upB (B : Nat → Nat × Nat) (r n q k e : Nat) : Nat → Nat × Nat := fun a => if a = q then (r, n) else if a = e then (2, k) else B a
theorem lsT_ne {t : Nat} (h : lsT t) : t ≠ 0 ∧ t ≠ 4 ∧ t ≠ 25 ∧ t ≠ 16 := by rcases h with w | w | w | w | w <;> omega
theorem lsr_inj {r s : Nat} (h1 : 3 ≤ r) (h2 : r ≤ 9) (h3 : 3 ≤ s) (h4 : s ≤ 9) (e : lsr r = lsr s) : r = s := by
  unfold lsr at e
  repeat' split at e
  all_goals omega
theorem lsr_4 {r : Nat} : lsr r ≠ 4 := by
  unfold lsr
  repeat' split
  all_goals omega
section ADD
variable {Z : Nat → Nat} {vx : Nat} {A : Nat → Nat → Nat} {B : Nat → Nat × Nat} {h h1 : HS} {d d' : DS}
theorem CD.lvA (C : CD Z vx A B h d) {r i : Nat} (h3 : 3 ≤ r) (h9 : r ≤ 9) (hi : i < ctr d r) : lsT (gT h (A r i)) := obj_T h3 h9 ((C.2.1 r h3 h9).2 i hi).1
/-- an array of a list: its role -/
theorem CD.r2 (C : CD Z vx A B h d) {k : Nat} (hk : k < 8) (h4 : gT h (A 2 k) = 4) : B (A 2 k) = (2, k) := by
  rcases (C.1.2.2 k hk).2.2.2 with z | z
  · exact z
  · rw [z, (C.1.2.2 k hk).2.2.1] at h4; omega
theorem sp_addObj {post : Int32 → HS → Prop} {r n q : Nat} (C : CD Z vx A B h d) (V : lv A h) (h3 : 3 ≤ r) (h9 : r ≤ 9) (hn : ctr d r = n) (n100 : n < 100) (hq : gT h q = 0)
    (s1 : ∀ a, gT h a ≠ 0 → (r = 3 → (B a).1 ≠ 3) → ce h h1 a) (o1 : obj h1 d' r q n) (o2 : ∀ i, i < n → obj h1 d' r (A r i) i)
    (o3 : ∀ r', 3 ≤ r' → r' ≤ 9 → r' ≠ r → ctr d' r' = ctr d r' ∧ ∀ i g a, i < ctr d r' → obj g d r' a i → obj g d' r' a i) (hc : ctr d' r = n + 1) (hr : ∀ m, rnk d' m = rnk d m)
    (kk : ∀ h' A' B', CD Z vx A' B' h' d' → lv A' h' → mv 11 100 A A' B B' h h' → (∀ m pm, BN Z A h m pm → (∀ i, i < m → pm i < nL d) → BN Z A' h' m pm) → cvx vx h h' → B' vx = (0, 0) → (A' r n = q ∧ ∀ i, i < n → A' r i = A r i) → ce h h' vx → post 1 h') : wp_AL_add2 Z post h1 (A 1 (lsr r)) (some q) := by
  have C0 := C
  obtain ⟨⟨c1, c2, c3⟩, c4, c5, c6, c7, c8, c9⟩ := C
  have hk := lsr_lt r
  have n3 : ∀ a, (B a).1 < 3 ∨ 3 < (B a).1 → gT h a ≠ 0 → ce h h1 a := fun a ha hl => s1 a hl fun _ => by omega
  have l1 : ∀ k, k < 8 → ce h h1 (A 1 k) := fun k hk => n3 _ (Or.inl (by rw [(c3 k hk).2.1]; show 1 < 3; omega)) (by rw [(c3 k hk).2.2.1]; decide)
  have l2 : ∀ k, k < 8 → ce h h1 (A 2 k) := fun k hk => by
    obtain ⟨z1, z2, z3⟩ := C0.l2 V hk
    exact n3 _ (Or.inl (by omega)) z3
  have qT := obj_T h3 h9 o1
  obtain ⟨p1, p2⟩ := c4 r h3 h9
  rw [hn] at p1 p2
  refine sp_add (p1.frame (l1 _ hk) (fun _ => l2 _ hk)) n100 (fun i hi => obj_T h3 h9 (o2 i hi)) qT fun h' e' he L gR9 eT s => ?_
  have T1 : ∀ k, k < 8 → gT h1 (A 2 k) = gT h (A 2 k) := fun k hk => (l2 k hk).T
  have he' : (e' = A 2 (lsr r) ∧ gT h e' = 4) ∨ (gT h1 e' = 0 ∧ e' ≠ q) := by
    rcases he with ⟨z1, z2⟩ | z
    · left; rw [z2]; exact ⟨rfl, by rw [← T1 _ hk]; exact z1⟩
    · right; exact ⟨z, fun w => (lsT_ne qT).1 (by rw [← w]; exact z)⟩
  have qe : q ≠ e' := by
    rcases he' with ⟨z1, z2⟩ | ⟨z1, z2⟩
    · intro w; rw [← w, hq] at z2; omega
    · exact fun w => z2 w.symm
  have de : gT h e' = 4 ∨ gT h1 e' = 0 := he'.elim (fun z => Or.inl z.2) (fun z => Or.inr z.1)
  -- what stays from h1 on
  have st : ∀ a, gT h1 a ≠ 0 → a ≠ A 1 (lsr r) → a ≠ e' → (gT h1 (A 2 (lsr r)) = 4 → a ≠ A 2 (lsr r)) → ce h1 h' a := fun a g1 g2 g3 g4 => s a ⟨g2, g4, g1⟩
  -- an address of another role
  have ot : ∀ a, gT h a ≠ 0 → ce h h1 a → (B a ≠ (1, lsr r)) → (B a ≠ (2, lsr r)) → ce h1 h' a ∧ upB B r n q (lsr r) e' a = B a := by
    intro a ha ca g1 g2
    have a1 : gT h1 a ≠ 0 := by rw [ca.T]; exact ha
    have ae : a ≠ e' := by
      intro w
      rcases he' with ⟨z1, z2⟩ | ⟨z1, z2⟩
      · rw [w, z1] at g2; exact g2 (C0.r2 hk (by rw [← z1]; exact z2))
      · rw [w] at a1; exact a1 z1
    refine ⟨st a a1 (fun w => g1 (by rw [w]; exact (c3 _ hk).2.1)) ae fun z w => g2 (by rw [w]; exact C0.r2 hk (by rw [← T1 _ hk]; exact z)), ?_⟩
    unfold upB
    rw [if_neg (fun w => ha (by rw [w]; exact hq)), if_neg ae]
  have bq : upB B r n q (lsr r) e' q = (r, n) := by unfold upB; rw [if_pos rfl]
  have be : upB B r n q (lsr r) e' e' = (2, lsr r) := by unfold upB; rw [if_neg (Ne.symm qe), if_pos rfl]
  have vq := n3 vx (Or.inl (by rw [c2]; show 0 < 3; omega)) (by rw [c1]; decide)
  obtain ⟨v1, v2⟩ := ot vx (by rw [c1]; decide) vq (by rw [c2]; intro w; cases w) (by rw [c2]; intro w; cases w)
  have cv : ce h h' vx := ce_tr vq v1
  have aA : ∀ r' i, r' ≠ 2 → ¬ (r' = r ∧ i = n) → upA A r n q (lsr r) e' r' i = A r' i := by
    intro r' i z1 z2; unfold upA; rw [if_neg z2, if_neg (fun w => z1 w.1)]
  have a2 : ∀ k, k ≠ lsr r → upA A r n q (lsr r) e' 2 k = A 2 k := by
    intro k hk; unfold upA; rw [if_neg (fun w => by omega), if_neg (fun w => hk w.2)]
  have a2' : upA A r n q (lsr r) e' 2 (lsr r) = e' := by unfold upA; rw [if_neg (fun w => by omega), if_pos ⟨rfl, rfl⟩]
  have aq : upA A r n q (lsr r) e' r n = q := by unfold upA; rw [if_pos ⟨rfl, rfl⟩]
  have ar : ∀ i, i < n → upA A r n q (lsr r) e' r i = A r i := fun i hi => aA r i (by omega) (fun w => by omega)
  have L1 : ∀ k, k < 8 → k ≠ lsr r → ce h h' (A 1 k) ∧ upB B r n q (lsr r) e' (A 1 k) = (1, k) := by
    intro k hk nk
    obtain ⟨z1, z2⟩ := ot (A 1 k) (by rw [(c3 k hk).2.2.1]; decide) (l1 k hk) (by rw [(c3 k hk).2.1]; intro w; exact nk (Prod.mk.inj w).2) (by rw [(c3 k hk).2.1]; intro w; exact absurd (Prod.mk.inj w).1 (by omega))
    exact ⟨ce_tr (l1 k hk) z1, by rw [z2]; exact (c3 k hk).2.1⟩
  have L2 : ∀ k, k < 8 → k ≠ lsr r → ce h h' (A 2 k) ∧ (upB B r n q (lsr r) e' (A 2 k) = (2, k) ∨ A 2 k = A 1 k) := by
    intro k hk nk
    rcases (c3 k hk).2.2.2 with z | z
    · obtain ⟨z1, z2⟩ := ot (A 2 k) (V k hk) (l2 k hk) (by rw [z]; intro w; exact absurd (Prod.mk.inj w).1 (by omega)) (by rw [z]; intro w; exact nk (Prod.mk.inj w).2)
      exact ⟨ce_tr (l2 k hk) z1, Or.inl (by rw [z2]; exact z)⟩
    · rw [z]; exact ⟨(L1 k hk nk).1, Or.inr rfl⟩
  have lT : gT h' (A 1 (lsr r)) = 25 := L.1
  have lB : upB B r n q (lsr r) e' (A 1 (lsr r)) = (1, lsr r) := by
    have x1 : A 1 (lsr r) ≠ q := fun w => by have := (c3 _ hk).2.2.1; rw [w, hq] at this; omega
    have x2 : A 1 (lsr r) ≠ e' := fun w => by
      have h25 := (c3 _ hk).2.2.1
      have h25' := (l1 _ hk).T
      rw [w] at h25 h25'
      rcases de with z | z <;> omega
    unfold upB
    rw [if_neg x1, if_neg x2]; exact (c3 _ hk).2.1
  refine kk h' (upA A r n q (lsr r) e') (upB B r n q (lsr r) e') ⟨⟨by rw [cv.T]; exact c1, by rw [v2]; exact c2, fun k hk => ?_⟩, fun r' g3 g9 => ?_, ?_⟩ (fun k hk => ?_) ⟨fun a g1 g2 g3 => ?_, fun r' i g1 g2 => aA r' i (by omega) (fun w => by omega)⟩ (fun m pm N Nl => ?_) (cvx.of cv) (by rw [v2]; exact c2) ⟨aq, ar⟩ cv
  · rw [aA 1 k (by omega) (fun w => by omega)]
    by_cases z : k = lsr r
    · subst z
      rw [a2', be]
      exact ⟨by rw [cv.R]; exact (c3 _ hk).1, lB, lT, Or.inl rfl⟩
    · rw [a2 k z]
      obtain ⟨x1, x2⟩ := L1 k hk z
      exact ⟨by rw [cv.R]; exact (c3 k hk).1, x2, by rw [x1.T]; exact (c3 k hk).2.2.1, (L2 k hk z).2⟩
  · by_cases z : r' = r
    · subst z
      rw [a2', hc, aA 1 _ (by omega) (fun w => by omega)]
      refine ⟨L.congr fun i hi => ?_, fun i hi => ?_⟩
      · by_cases w : i = n
        · subst w; rw [aq, va_up_self]
        · rw [ar i (by omega), va_up_ne _ _ w]
      · by_cases w : i = n
        · subst w
          rw [aq]
          refine ⟨obj_frame (st q (lsT_ne qT).1 (fun w => ?_) qe (fun _ w => ?_)) o1, bq⟩
          · have := (c3 _ hk).2.2.1; rw [← w, hq] at this; omega
          · exact V _ hk (by rw [← w]; exact hq)
        · rw [ar i (by omega)]
          have li := C0.lvA (i := i) h3 h9 (by omega)
          have li1 := obj_T h3 h9 (o2 i (by omega))
          obtain ⟨oi, bi⟩ := p2 i (by omega)
          have c' : ce h1 h' (A r' i) := by
            refine st _ (lsT_ne li1).1 (fun w => ?_) (fun w => ?_) (fun x w => ?_)
            · have := (c3 _ hk).2.2.1; rw [← w] at this; have := lsT_ne li; omega
            · have a1 := lsT_ne li
              have a2 := lsT_ne li1
              rw [w] at a1 a2
              rcases de with z | z <;> omega
            · rw [← w] at x; have := lsT_ne li1; omega
          refine ⟨obj_frame c' (o2 i (by omega)), ?_⟩
          unfold upB
          rw [if_neg (fun w => (lsT_ne li).1 (by rw [w]; exact hq)), if_neg (fun w => ?_)]
          · exact bi
          · have a1 := lsT_ne li
            have a2 := lsT_ne li1
            rw [w] at a1 a2
            rcases de with z | z <;> omega
    · obtain ⟨y1, y2⟩ := o3 r' g3 g9 z
      have nk : lsr r' ≠ lsr r := fun w => z (lsr_inj g3 g9 h3 h9 w)
      obtain ⟨u1, u2⟩ := c4 r' g3 g9
      rw [a2 _ nk, y1, aA 1 _ (by omega) (fun w => by omega), show upA A r n q (lsr r) e' r' = A r' from funext fun i => aA r' i (by omega) (fun w => z w.1)]
      refine ⟨u1.frame (L1 _ (lsr_lt r') nk).1 (fun _ => (L2 _ (lsr_lt r') nk).1), fun i hi => ?_⟩
      obtain ⟨oi, bi⟩ := u2 i hi
      have li := C0.lvA (i := i) g3 g9 hi
      have ci : ce h h1 (A r' i) := s1 _ (lsT_ne li).1 fun w => by rw [bi]; show r' ≠ 3; omega
      obtain ⟨x1, x2⟩ := ot (A r' i) (lsT_ne li).1 ci (by rw [bi]; intro w; exact absurd (Prod.mk.inj w).1 (by omega)) (by rw [bi]; intro w; exact absurd (Prod.mk.inj w).1 (by omega))
      exact ⟨y2 i h' _ hi (obj_frame (ce_tr ci x1) oi), by rw [x2]; exact bi⟩
  · have ci := n3 (A 10 0) (Or.inr (by rw [c6]; show 3 < 10; omega)) (by rw [c7]; decide)
    obtain ⟨x1, x2⟩ := ot (A 10 0) (by rw [c7]; decide) ci (by rw [c6]; intro w; exact absurd (Prod.mk.inj w).1 (by omega)) (by rw [c6]; intro w; exact absurd (Prod.mk.inj w).1 (by omega))
    have x3 := ce_tr ci x1
    rw [aA 10 0 (by omega) (fun w => by omega)]
    exact ⟨by rw [cv.R]; exact c5, by rw [x2]; exact c6, by rw [x3.T]; exact c7, by rw [x3.N]; exact c8, fun m hm => by rw [x3.A, hr]; exact c9 m hm⟩
  · by_cases z : k = lsr r
    · subst z; rw [a2', eT]; decide
    · rw [a2 k z, (L2 k hk z).1.T]; exact V k hk
  · obtain ⟨x1, x2⟩ := ot a g3 (s1 a g3 fun w => by omega) (by intro w; rw [w] at g1; exact absurd g1 (by show ¬ 11 ≤ 1; omega)) (by intro w; rw [w] at g1; exact absurd g1 (by show ¬ 11 ≤ 2; omega))
    exact ⟨ce_tr (s1 a g3 fun w => by omega) x1, x2⟩
  · unfold BN
    rw [aA 1 4 (by omega) (fun w => by omega), a2 4 (Ne.symm lsr_4)]
    refine lL.congr (lL.frame N (L1 4 (by omega) (Ne.symm lsr_4)).1 fun _ => (L2 4 (by omega) (Ne.symm lsr_4)).1) fun i hi => (aA 6 (pm i) (by omega) fun w => ?_).symm
    obtain ⟨w1, w2⟩ := w
    subst w1
    have e6 : ctr d 6 = nL d := rfl
    have := Nl i hi
    omega
end ADD
