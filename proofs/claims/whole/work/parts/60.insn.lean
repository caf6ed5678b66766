section INSN
variable {Z : Nat → Nat} {vx : Nat} {A : Nat → Nat → Nat} {B : Nat → Nat × Nat} {h h1 : HS} {d d' : DS} {pm : Nat → Nat}
/-- a label comes to stand among those by name -/
theorem sp_insName {post : HS → Prop} {n p : Nat} (C : CD Z vx A B h d) (V : lv A h) (hn : nL d = n + 1) (n60 : n < 60) (hp : p ≤ n) (Q : BN Z A h n pm) (hq : ∀ i, i < n → pm i < n)
    (kk : ∀ h' A' B', CD Z vx A' B' h' d → lv A' h' → mv 3 100 A A' B B' h h' → BN Z A' h' (n + 1) (ins pm p n) → cvx vx h h' → B' vx = (0, 0) → post h') : wp_AL_add3 Z post h (A 1 4) (nI p) (some (A 6 n)) := by
  have C0 := C
  obtain ⟨⟨c1, c2, c3⟩, c4, c5, c6, c7, c8, c9⟩ := C
  have e6 : ctr d 6 = n + 1 := hn
  have lvl : ∀ i, i < n + 1 → lsT (gT h (A 6 i)) := fun i hi => C0.lvA (by omega) (by omega) (by omega)
  refine sp_addAt Q (by omega) (fun i hi => lvl _ (by have := hq i hi; omega)) hp (lvl n (by omega)) fun h' e' he L gR9 eT s => ?_
  have he' : (e' = A 2 4 ∧ gT h e' = 4) ∨ gT h e' = 0 := by
    rcases he with ⟨z1, z2⟩ | z
    · left; rw [z2]; exact ⟨rfl, z1⟩
    · exact Or.inr z
  -- an address of another role
  have ot : ∀ a, gT h a ≠ 0 → (B a ≠ (1, 4)) → (B a ≠ (2, 4)) → ce h h' a ∧ (if a = e' then (2, 4) else B a) = B a := by
    intro a ha g1 g2
    have ae : a ≠ e' := by
      intro w
      rcases he' with ⟨z1, z2⟩ | z
      · rw [w, z1] at g2; exact g2 (C0.r2 (by omega) (by rw [← z1]; exact z2))
      · rw [w] at ha; exact ha z
    refine ⟨s a ⟨fun w => g1 (by rw [w]; exact (c3 4 (by omega)).2.1), fun z w => g2 (by rw [w]; exact C0.r2 (by omega) z), ha⟩, if_neg ae⟩
  obtain ⟨v1, v2⟩ := ot vx (by rw [c1]; decide) (by rw [c2]; intro w; cases w) (by rw [c2]; intro w; cases w)
  have L1 : ∀ k, k < 8 → k ≠ 4 → ce h h' (A 1 k) ∧ (if A 1 k = e' then (2, 4) else B (A 1 k)) = (1, k) := by
    intro k hk nk
    obtain ⟨z1, z2⟩ := ot (A 1 k) (by rw [(c3 k hk).2.2.1]; decide) (by rw [(c3 k hk).2.1]; intro w; exact nk (Prod.mk.inj w).2) (by rw [(c3 k hk).2.1]; intro w; exact absurd (Prod.mk.inj w).1 (by omega))
    exact ⟨z1, by rw [z2]; exact (c3 k hk).2.1⟩
  have L2 : ∀ k, k < 8 → k ≠ 4 → ce h h' (A 2 k) ∧ ((if A 2 k = e' then (2, 4) else B (A 2 k)) = (2, k) ∨ A 2 k = A 1 k) := by
    intro k hk nk
    rcases (c3 k hk).2.2.2 with z | z
    · obtain ⟨z1, z2⟩ := ot (A 2 k) (V k hk) (by rw [z]; intro w; exact absurd (Prod.mk.inj w).1 (by omega)) (by rw [z]; intro w; exact nk (Prod.mk.inj w).2)
      exact ⟨z1, Or.inl (by rw [z2]; exact z)⟩
    · rw [z]; exact ⟨(L1 k hk nk).1, Or.inr rfl⟩
  have lB : (if A 1 4 = e' then (2, 4) else B (A 1 4)) = (1, 4) := by
    rw [if_neg]
    · exact (c3 4 (by omega)).2.1
    · intro w
      have h25 := (c3 4 (by omega)).2.2.1
      rw [w] at h25
      rcases he' with z | z <;> omega
  have M : ∀ a, 3 ≤ (B a).1 → gT h a ≠ 0 → ce h h' a ∧ (if a = e' then (2, 4) else B a) = B a := fun a ha hl => ot a hl (fun w => by rw [w] at ha; exact absurd ha (by show ¬ 3 ≤ 1; omega)) (fun w => by rw [w] at ha; exact absurd ha (by show ¬ 3 ≤ 2; omega))
  obtain ⟨A', hA⟩ : ∃ A' : Nat → Nat → Nat, ∀ r i, A' r i = if r = 2 ∧ i = 4 then e' else A r i := ⟨fun r i => if r = 2 ∧ i = 4 then e' else A r i, fun _ _ => rfl⟩
  obtain ⟨B', hB⟩ : ∃ B' : Nat → Nat × Nat, ∀ a, B' a = if a = e' then (2, 4) else B a := ⟨fun a => if a = e' then (2, 4) else B a, fun _ => rfl⟩
  simp only [← hB] at v2 L1 L2 lB M
  have a2 : ∀ r i, r ≠ 2 → A' r i = A r i := fun r i z => by rw [hA, if_neg fun w => z w.1]
  have a24 : A' 2 4 = e' := by rw [hA, if_pos ⟨rfl, rfl⟩]
  have a2k : ∀ k, k ≠ 4 → A' 2 k = A 2 k := fun k z => by rw [hA, if_neg fun w => z w.2]
  have be : B' e' = (2, 4) := by rw [hB, if_pos rfl]
  refine kk h' A' B' ⟨⟨by rw [v1.T]; exact c1, by rw [v2]; exact c2, fun k hk => ?_⟩, fun r g3 g9 => ?_, ?_⟩ (fun k hk => ?_) ⟨fun a g1 g2 g3 => M a g1 g3, fun r i g1 g2 => a2 r i (by omega)⟩ ?_ (cvx.of v1) (by rw [v2]; exact c2)
  · rw [a2 1 k (by omega)]
    by_cases z : k = 4
    · subst z
      rw [a24, be]
      exact ⟨by rw [v1.R]; exact (c3 4 hk).1, lB, L.1, Or.inl rfl⟩
    · rw [a2k k z]
      obtain ⟨x1, x2⟩ := L1 k hk z
      exact ⟨by rw [v1.R]; exact (c3 k hk).1, x2, by rw [x1.T]; exact (c3 k hk).2.2.1, (L2 k hk z).2⟩
  · obtain ⟨u1, u2⟩ := c4 r g3 g9
    rw [a2 1 _ (by omega), a2k _ lsr_4, show A' r = A r from funext fun i => a2 r i (by omega)]
    refine ⟨u1.frame (L1 _ (lsr_lt r) lsr_4).1 (fun _ => (L2 _ (lsr_lt r) lsr_4).1), fun i hi => ?_⟩
    obtain ⟨oi, bi⟩ := u2 i hi
    obtain ⟨x1, x2⟩ := M (A r i) (by rw [bi]; exact g3) (lsT_ne (C0.lvA g3 g9 hi)).1
    exact ⟨obj_frame x1 oi, by rw [x2]; exact bi⟩
  · obtain ⟨x1, x2⟩ := M (A 10 0) (by rw [c6]; show 3 ≤ 10; omega) (by rw [c7]; decide)
    rw [a2 10 0 (by omega)]
    exact ⟨by rw [v1.R]; exact c5, by rw [x2]; exact c6, by rw [x1.T]; exact c7, by rw [x1.N]; exact c8, fun m hm => by rw [x1.A]; exact c9 m hm⟩
  · by_cases z : k = 4
    · subst z; rw [a24, eT]; decide
    · rw [a2k k z, (L2 k hk z).1.T]; exact V k hk
  · unfold BN
    rw [a2 1 4 (by omega), a24]
    refine L.congr fun i hi => ?_
    rw [a2 6 _ (by omega)]
    unfold ins
    by_cases z1 : i < p
    · rw [if_pos z1, if_pos z1]
    · rw [if_neg z1, if_neg z1]
      by_cases z2 : i = p
      · rw [if_pos z2, if_pos z2]
      · rw [if_neg z2, if_neg z2]
/-- the place where it stands -/
theorem sp_putByName {post : HS → Prop} {n : Nat} (hd : WF d) (C : CD Z vx A B h d) (V : lv A h) (hn : nL d = n + 1) (Q : BN Z A h n pm) (hq : ∀ i, i < n → pm i < n) (hall : ∀ l, l < n → ∃ i, i < n ∧ pm i = l) (hs : ∀ i j, i < j → j < n → lNm d (pm i) ≤ lNm d (pm j))
    (kk : ∀ h' A' B' pm', CD Z vx A' B' h' d → lv A' h' → mv 3 100 A A' B B' h h' → BN Z A' h' (n + 1) pm' → PM d pm' → cvx vx h h' → B' vx = (0, 0) → post h') : wp_NJ_putByName Z post h vx (some (A 6 n)) := by
  have hL := hd.1.2.2.2.1
  have nm : ∀ l, l < n + 1 → lNm d l < 1000 := fun l hl => (hd.2.2.2.2.1 l (by omega)).2.2
  refine lp_inv (fun q => ∃ p, p ≤ n ∧ q = (some (A 6 n), nI p, h) ∧ ∀ i, i < p → lNm d (pm i) ≤ lNm d n) (fun q => n - q.2.1.toNatClampNeg) ?_ _ ⟨0, by omega, rfl, fun i hi => absurd hi (Nat.not_lt_zero _)⟩
  rintro q K ⟨p, hp, rfl, o⟩ hK
  have fin : (∀ i, p ≤ i → i < n → lNm d n ≤ lNm d (pm i)) → wj_NJ_putByName_40 Z post vx (some (A 6 n)) (nI p) h := by
    intro w
    refine ⟨C.x, A 1 4, C.p (by omega), C.lT (by omega), sp_insName C V hn (by omega) hp Q hq fun h' A' B' C' V' m' Q' v' b' => kk h' A' B' (ins pm p n) C' V' m' Q' ⟨fun i hi => ?_, fun l hl => ?_, fun i j hij hj => ?_⟩ v' b'⟩
    · unfold ins
      by_cases z1 : i < p
      · rw [if_pos z1]; have := hq i (by omega); omega
      · rw [if_neg z1]
        by_cases z2 : i = p
        · rw [if_pos z2]; omega
        · rw [if_neg z2]; have := hq (i - 1) (by omega); omega
    · by_cases z : l = n
      · subst z
        exact ⟨p, by omega, by unfold ins; rw [if_neg (by omega), if_pos rfl]⟩
      · obtain ⟨i, i1, i2⟩ := hall l (by omega)
        by_cases y : i < p
        · exact ⟨i, by omega, by unfold ins; rw [if_pos y]; exact i2⟩
        · exact ⟨i + 1, by omega, by unfold ins; rw [if_neg (by omega), if_neg (by omega)]; exact i2⟩
    · have key : ∀ i, i < n + 1 → (i < p → ins pm p n i = pm i) ∧ (i = p → ins pm p n i = n) ∧ (p < i → ins pm p n i = pm (i - 1)) := by
        intro i hi
        unfold ins
        refine ⟨fun z => by rw [if_pos z], fun z => by rw [if_neg (by omega), if_pos z], fun z => by rw [if_neg (by omega), if_neg (by omega)]⟩
      obtain ⟨a1, a2, a3⟩ := key i (by omega)
      obtain ⟨b1, b2, b3⟩ := key j (by omega)
      rcases Nat.lt_trichotomy i p with z | z | z
      · rw [a1 z]
        rcases Nat.lt_trichotomy j p with y | y | y
        · rw [b1 y]; exact hs i j hij (by omega)
        · rw [b2 y]; exact o i z
        · rw [b3 y]
          by_cases x : i = j - 1
          · rw [x]; exact Nat.le_refl _
          · exact hs i (j - 1) (by omega) (by omega)
      · rw [a2 z, b3 (by omega)]
        exact w (j - 1) (by omega) (by omega)
      · rw [a3 z, b3 (by omega)]
        exact hs (i - 1) (j - 1) (by omega) (by omega)
  unfold wb_NJ_putByName_2
  dsimp only
  refine ⟨C.x, A 1 4, C.p (by omega), C.lT (by omega), sp_size Q (pk_le n p (fun z => fin fun i a b => by omega) (fun z => ⟨C.x, A 1 4, C.p (by omega), C.lT (by omega), sp_get Q z ?_⟩))⟩
  have hpm := hq p z
  obtain ⟨p1, p2, p3, p4, p5, p6⟩ := C.L (i := pm p) (by omega)
  obtain ⟨q1, q2, q3, q4, q5, q6⟩ := C.L (i := n) (by omega)
  refine ⟨cst p1, A 6 (pm p), rfl, p1, A 6 n, rfl, q1, ?_⟩
  rw [p5, q5]
  have m1 := nm n (by omega)
  have m2 := nm (pm p) (by omega)
  refine pk_lt (lNm d n) (lNm d (pm p)) (fun w => fin fun i a b => ?_) (fun w => ?_)
  · by_cases y : i = p
    · rw [y]; omega
    · have := hs p i (by omega) b
      omega
  · rintro y rfl
    refine hK _ ⟨p + 1, by omega, by rw [nI_1], fun i hi => ?_⟩ ?_
    · by_cases y : i = p
      · rw [y]; exact w
      · exact o i (by omega)
    · dsimp only
      rw [nI_1, jr_cl (by omega), jr_cl (by omega)]; omega
end INSN
