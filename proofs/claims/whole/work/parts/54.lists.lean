/-! a counting sort. The j-th turn: the label at the place m - 1 - j / 16 of those by name, on the sheet j % 16 -/
def ev (d : DS) (pm : Nat → Nat) (n j : Nat) : Prop := j / 16 < nL d ∧ inl d n (pm (nL d - 1 - j / 16)) (j % 16)
def nam (d : DS) (pm : Nat → Nat) (j : Nat) : Nat := lNm d (pm (nL d - 1 - j / 16))
noncomputable def cv (d : DS) (pm : Nat → Nat) (n : Nat) : Nat := cn (ev d pm n) (16 * nL d)
/-- the names as far as J -/
def NLP (d : DS) (pm : Nat → Nat) (A : Nat → Nat → Nat) (h : HS) (J : Nat) : Prop :=
  (∀ n, n ≤ cnt d → gA h (A 16 0) n = nI (su (cv d pm) (n + 1) - cn (ev d pm n) J)) ∧ ∀ n, n < cnt d →
  (∀ q, su (cv d pm) (n + 1) - cn (ev d pm n) J ≤ q → q < su (cv d pm) (n + 1) → ∃ j, j < J ∧ ev d pm n j ∧ gA h (A 16 1) q = nI (nam d pm j)) ∧ (∀ q q' m m', su (cv d pm) (n + 1) - cn (ev d pm n) J ≤ q → q ≤ q' → q' < su (cv d pm) (n + 1) → m < 1000 → m' < 1000 → gA h (A 16 1) q = nI m → gA h (A 16 1) q' = nI m' → m ≤ m') ∧ ∀ j, j < J → ev d pm n j → ∃ q, su (cv d pm) (n + 1) - cn (ev d pm n) J ≤ q ∧ q < su (cv d pm) (n + 1) ∧ gA h (A 16 1) q = nI (nam d pm j)
section LST
variable {Z : Nat → Nat} {vx : Nat} {A : Nat → Nat → Nat} {B : Nat → Nat × Nat} {h h' : HS} {d : DS} {pm : Nat → Nat}
theorem ev_u {n n' j : Nat} (h : ev d pm n j) (h' : ev d pm n' j) : n = n' := inl_u h.2 h'.2
theorem ev_lt (hd : WF d) {n j : Nat} (h : ev d pm n j) : n < cnt d := inl_lt hd h.2
theorem ev_16 (hd : WF d) {n j : Nat} (h : ev d pm n j) : j % 16 < nS d := h.2.2.1
theorem su_960 (hd : WF d) (M : Nat) : su (cv d pm) M ≤ 960 := by
  have h1 := su_up (P := ev d pm) (fun j m m' a b => ev_u a b) M (16 * nL d)
  have h2 := hd.1.2.2.2.1
  have : su (cv d pm) M = su (fun m => cn (ev d pm m) (16 * nL d)) M := rfl
  omega
theorem nam_lt (hd : WF d) {n j : Nat} (h : ev d pm n j) : nam d pm j < 1000 := (hd.2.2.2.2.1 _ h.2.1).2.2
theorem nam_mo (hp : PM d pm) {j j' : Nat} (h : j ≤ j') (hj : j' / 16 < nL d) : nam d pm j' ≤ nam d pm j := by
  unfold nam
  by_cases e : j / 16 = j' / 16
  · rw [e]; exact Nat.le_refl _
  · exact hp.2.2 _ _ (by omega) (by omega)
theorem cv_in {n : Nat} (J : Nat) (hJ : J ≤ 16 * nL d) : cn (ev d pm n) J ≤ cv d pm n := cn_le _ hJ
theorem NLP.start (h1 : ∀ n, n ≤ cnt d → gA h (A 16 0) n = nI (su (cv d pm) (n + 1))) : NLP d pm A h 0 := by
  refine ⟨fun n hn => by rw [h1 n hn, cn_0, Nat.sub_zero], fun n hn => ⟨fun q a b => ?_, fun q q' m m' a b c => ?_, fun j hj => absurd hj (Nat.not_lt_zero _)⟩⟩
  · rw [cn_0] at a; omega
  · rw [cn_0] at a; omega
theorem NLP.frame {J : Nat} (L : NLP d pm A h J) (c0 : gA h' (A 16 0) = gA h (A 16 0)) (c1 : gA h' (A 16 1) = gA h (A 16 1)) : NLP d pm A h' J := by
  unfold NLP at L ⊢
  rw [c0, c1]; exact L
theorem NLP.skip {J K : Nat} (L : NLP d pm A h J) (hJ : J ≤ K) (no : ∀ n j, J ≤ j → j < K → ¬ ev d pm n j) : NLP d pm A h K := by
  have e : ∀ n, cn (ev d pm n) K = cn (ev d pm n) J := fun n => cn_skip hJ fun j a b => no n j a b
  unfold NLP at L ⊢
  simp only [e]
  refine ⟨L.1, fun n hn => ?_⟩
  obtain ⟨l1, l2, l3⟩ := L.2 n hn
  refine ⟨fun q a b => ?_, l2, fun j hj e => l3 j (Nat.lt_of_not_le fun z => no n j z hj e) e⟩
  obtain ⟨j, j1, j2⟩ := l1 q a b
  exact ⟨j, by omega, j2⟩
/-- one more -/
theorem NLP.put {J n : Nat} (hd : WF d) (hp : PM d pm) (L : NLP d pm A h J) (e : ev d pm n J) (h0 : ∀ n', gA h' (A 16 0) n' = if n' = n then nI (su (cv d pm) (n + 1) - cn (ev d pm n) J - 1) else gA h (A 16 0) n') (h1 : ∀ q, gA h' (A 16 1) q = if q = su (cv d pm) (n + 1) - cn (ev d pm n) J - 1 then nI (nam d pm J) else gA h (A 16 1) q) : NLP d pm A h' (J + 1) := by
  have J16 : J < 16 * nL d := by have := e.1; omega
  have c1 : cn (ev d pm n) J < cv d pm n := cn_lt J16 e
  have s1 : su (cv d pm) (n + 1) = su (cv d pm) n + cv d pm n := rfl
  refine ⟨fun n' hn' => ?_, fun n' hn' => ?_⟩
  · rw [h0]
    by_cases z : n' = n
    · subst z; rw [if_pos rfl, cn_s e]; rw [Nat.sub_sub]
    · rw [if_neg z, cn_n (fun w => z (ev_u w e))]; exact L.1 n' hn'
  · obtain ⟨l1, l2, l3⟩ := L.2 n' hn'
    by_cases z : n' = n
    · subst z
      rw [cn_s e]
      have small : ∀ q m, su (cv d pm) (n' + 1) - cn (ev d pm n') J ≤ q → q < su (cv d pm) (n' + 1) → m < 1000 → gA h (A 16 1) q = nI m → nam d pm J ≤ m := by
        intro q m a b c f
        obtain ⟨j, j1, j2, j3⟩ := l1 q a b
        have : nam d pm j < 1000 := nam_lt hd j2
        rw [j3, nI_eq (by omega) (by omega)] at f
        rw [← f]; exact nam_mo hp (by omega) e.1
      refine ⟨fun q a b => ?_, fun q q' m m' a b c c1 c2 f g => ?_, fun j hj ej => ?_⟩
      · rw [h1]
        by_cases w : q = su (cv d pm) (n' + 1) - cn (ev d pm n') J - 1
        · rw [if_pos w]; exact ⟨J, by omega, e, rfl⟩
        · rw [if_neg w]
          obtain ⟨j, j1, j2⟩ := l1 q (by omega) b
          exact ⟨j, by omega, j2⟩
      · rw [h1] at f g
        have nJ := nam_lt hd e
        by_cases w : q = su (cv d pm) (n' + 1) - cn (ev d pm n') J - 1
        · rw [if_pos w, nI_eq (by omega) (by omega)] at f
          by_cases y : q' = su (cv d pm) (n' + 1) - cn (ev d pm n') J - 1
          · rw [if_pos y, nI_eq (by omega) (by omega)] at g; omega
          · rw [if_neg y] at g
            have := small q' m' (by omega) c c2 g
            omega
        · rw [if_neg w] at f
          rw [if_neg (by omega)] at g
          exact l2 q q' m m' (by omega) b c c1 c2 f g
      · by_cases w : j = J
        · subst w
          exact ⟨su (cv d pm) (n' + 1) - cn (ev d pm n') j - 1, by omega, by omega, by rw [h1, if_pos rfl]⟩
        · obtain ⟨q, q1, q2, q3⟩ := l3 j (by omega) ej
          exact ⟨q, by omega, q2, by rw [h1, if_neg (by omega)]; exact q3⟩
    · rw [cn_n (fun w => z (ev_u w e))]
      -- another net's places are others
      have ot : ∀ q, su (cv d pm) (n' + 1) - cn (ev d pm n') J ≤ q → q < su (cv d pm) (n' + 1) → gA h' (A 16 1) q = gA h (A 16 1) q := by
        intro q a b
        have c2 := cv_in (d := d) (pm := pm) (n := n') J (by omega)
        have s2 : su (cv d pm) (n' + 1) = su (cv d pm) n' + cv d pm n' := rfl
        rw [h1, if_neg]
        intro w
        rcases Nat.lt_or_ge n' n with y | y
        · have := su_le (cv d pm) (m := n' + 1) (n := n) y
          omega
        · have := su_le (cv d pm) (m := n + 1) (n := n') (by omega)
          omega
      refine ⟨fun q a b => ?_, fun q q' m m' a b c c1 c2 f g => ?_, fun j hj ej => ?_⟩
      · rw [ot q a b]
        obtain ⟨j, j1, j2⟩ := l1 q a b
        exact ⟨j, by omega, j2⟩
      · rw [ot q a (by omega)] at f
        rw [ot q' (by omega) c] at g
        exact l2 q q' m m' a b c c1 c2 f g
      · obtain ⟨q, q1, q2, q3⟩ := l3 j (Nat.lt_of_le_of_ne (by omega) fun w => z (ev_u (by rw [← w]; exact ej) e)) ej
        exact ⟨q, q1, q2, by rw [ot q q1 q2]; exact q3⟩
theorem NLP.done (hd : WF d) (hp : PM d pm) (L : NLP d pm A h (16 * nL d)) : NL d A h := by
  have hS := hd.1.1
  have st : ∀ n, su (cv d pm) (n + 1) - cn (ev d pm n) (16 * nL d) = su (cv d pm) n := fun n => by
    have s1 : su (cv d pm) (n + 1) = su (cv d pm) n + cv d pm n := rfl
    have e : cn (ev d pm n) (16 * nL d) = cv d pm n := rfl
    omega
  unfold NLP at L
  simp only [st] at L
  refine ⟨su (cv d pm), L.1, fun n _ => su_le _ (by omega), su_960 hd _, fun n hn => ?_⟩
  obtain ⟨l1, l2, l3⟩ := L.2 n hn
  refine ⟨fun q a b => ?_, l2, fun m hm => ?_⟩
  · obtain ⟨j, j1, j2, j3⟩ := l1 q a b
    exact ⟨nam d pm j, nam_lt hd j2, j3, _, _, j2.2, rfl⟩
  · obtain ⟨l, t, i1, rfl⟩ := hm
    obtain ⟨i, i2, i3⟩ := hp.2.1 l i1.1
    have ht := i1.2.1
    have e1 : (16 * (nL d - 1 - i) + t) / 16 = nL d - 1 - i := by omega
    have e2 : (16 * (nL d - 1 - i) + t) % 16 = t := by omega
    have e3 : nL d - 1 - (nL d - 1 - i) = i := by omega
    have ej : ev d pm n (16 * (nL d - 1 - i) + t) := by
      unfold ev
      rw [e1, e2, e3, i3]
      exact ⟨by omega, i1⟩
    obtain ⟨q, q1, q2, q3⟩ := l3 _ (by omega) ej
    refine ⟨q, q1, q2, ?_⟩
    rw [q3]; unfold nam; rw [e1, e3, i3]
end LST
