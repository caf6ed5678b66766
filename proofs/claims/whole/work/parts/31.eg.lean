/-! WHAT IS JOINED. S: pairs; EG S a b: no function that is alike on the pairs tells a from b -/
def EG (S : Nat → Nat → Prop) (a b : Nat) : Prop := ∀ g : Nat → Nat, (∀ x y, S x y → g x = g y) → g a = g b
theorem EG.rf {S : Nat → Nat → Prop} (a : Nat) : EG S a a := fun _ _ => rfl
theorem EG.sy {S : Nat → Nat → Prop} {a b : Nat} (h : EG S a b) : EG S b a := fun g hg => (h g hg).symm
theorem EG.tr {S : Nat → Nat → Prop} {a b c : Nat} (h : EG S a b) (k : EG S b c) : EG S a c := fun g hg => (h g hg).trans (k g hg)
theorem EG.of {S : Nat → Nat → Prop} {a b : Nat} (h : S a b) : EG S a b := fun _ hg => hg a b h
theorem EG.mo {S T : Nat → Nat → Prop} {a b : Nat} (h : EG S a b) (k : ∀ x y, S x y → EG T x y) : EG T a b := fun g hg => h g fun x y hxy => k x y hxy g hg
theorem EG.map {S T : Nat → Nat → Prop} {a b : Nat} (f : Nat → Nat) (h : EG S a b) (k : ∀ x y, S x y → EG T (f x) (f y)) : EG T (f a) (f b) := fun g hg => h (fun x => g (f x)) fun x y hxy => k x y hxy g hg
/-- ld: the least one that is joined to each -/
def LD (ld : Nat → Nat) (S : Nat → Nat → Prop) : Prop := (∀ n, ld n ≤ n) ∧ (∀ n, EG S n (ld n)) ∧ ∀ a b, S a b → ld a = ld b
theorem LD.iff {ld : Nat → Nat} {S : Nat → Nat → Prop} (h : LD ld S) (a b : Nat) : ld a = ld b ↔ EG S a b :=
  ⟨fun e => (h.2.1 a).tr (by rw [e]; exact (h.2.1 b).sy), fun e => e ld h.2.2⟩
theorem LD.id : LD (fun n => n) (fun _ _ => False) := ⟨fun n => Nat.le_refl n, fun n => EG.rf n, fun _ _ h => h.elim⟩
theorem LD.mo {ld : Nat → Nat} {S T : Nat → Nat → Prop} (h : LD ld S) (h1 : ∀ x y, S x y → EG T x y) (h2 : ∀ x y, T x y → EG S x y) : LD ld T :=
  ⟨h.1, fun n => (h.2.1 n).mo h1, fun a b hab => (h.iff a b).mpr (h2 a b hab)⟩
theorem LD.idem {ld : Nat → Nat} {S : Nat → Nat → Prop} (h : LD ld S) (n : Nat) : ld (ld n) = ld n := (h.iff _ _).mpr (h.2.1 n).sy
/-- the same pairs, the same least ones -/
theorem LD.uniq {ld le : Nat → Nat} {S T : Nat → Nat → Prop} (h : LD ld S) (k : LD le T) (e : ∀ a b, EG S a b ↔ EG T a b) (n : Nat) : ld n = le n := by
  have h1 : ld n ≤ le n := by
    have : ld n = ld (le n) := (h.iff _ _).mpr ((e _ _).mpr (k.2.1 n))
    rw [this]; exact h.1 _
  have h2 : le n ≤ ld n := by
    have : le n = le (ld n) := (k.iff _ _).mpr ((e _ _).mp (h.2.1 n))
    rw [this]; exact k.1 _
  omega
/-- two are joined -/
def jn (ld : Nat → Nat) (a b : Nat) : Nat → Nat := fun n => if ld n = ld a ∨ ld n = ld b then min (ld a) (ld b) else ld n
theorem LD.join {ld : Nat → Nat} {S : Nat → Nat → Prop} (h : LD ld S) (a b : Nat) : LD (jn ld a b) (fun x y => S x y ∨ (x = a ∧ y = b)) := by
  have up : ∀ x y, EG S x y → EG (fun x y => S x y ∨ (x = a ∧ y = b)) x y := fun x y hxy => hxy.mo fun u v huv => EG.of (Or.inl huv)
  have hab : EG (fun x y => S x y ∨ (x = a ∧ y = b)) (ld a) (ld b) := ((up _ _ (h.2.1 a)).sy.tr (EG.of (Or.inr ⟨rfl, rfl⟩))).tr (up _ _ (h.2.1 b))
  refine ⟨fun n => ?_, fun n => ?_, fun x y hxy => ?_⟩
  · unfold jn
    have := h.1 n
    split
    · rename_i e
      rcases e with e | e <;> omega
    · exact this
  · unfold jn
    split
    · rename_i e
      have hm : min (ld a) (ld b) = ld a ∨ min (ld a) (ld b) = ld b := by omega
      rcases e with e | e <;> rcases hm with m | m <;> rw [m]
      · rw [← e]; exact up _ _ (h.2.1 n)
      · exact ((up _ _ (h.2.1 n)).tr (by rw [e]; exact hab))
      · exact ((up _ _ (h.2.1 n)).tr (by rw [e]; exact hab.sy))
      · rw [← e]; exact up _ _ (h.2.1 n)
    · exact up _ _ (h.2.1 n)
  · unfold jn
    rcases hxy with hxy | ⟨rfl, rfl⟩
    · rw [h.2.2 x y hxy]
    · simp
/-! HOW MANY below n have P -/
noncomputable def cn (P : Nat → Prop) : Nat → Nat
  | 0 => 0
  | n + 1 => @ite _ (P n) (Classical.propDecidable _) (cn P n + 1) (cn P n)
theorem cn_0 (P : Nat → Prop) : cn P 0 = 0 := rfl
theorem cn_s {P : Nat → Prop} {n : Nat} (h : P n) : cn P (n + 1) = cn P n + 1 := by simp [cn, h]
theorem cn_n {P : Nat → Prop} {n : Nat} (h : ¬ P n) : cn P (n + 1) = cn P n := by simp [cn, h]
theorem cn_le (P : Nat → Prop) {m n : Nat} (h : m ≤ n) : cn P m ≤ cn P n := by
  induction n with
  | zero => have : m = 0 := by omega
            subst this; exact Nat.le_refl _
  | succ n ih =>
    by_cases e : m = n + 1
    · subst e; exact Nat.le_refl _
    · have := ih (by omega)
      by_cases p : P n
      · rw [cn_s p]; omega
      · rw [cn_n p]; exact this
theorem cn_lt {P : Nat → Prop} {m n : Nat} (h : m < n) (p : P m) : cn P m < cn P n := by
  have := cn_le P (m := m + 1) (n := n) h
  rw [cn_s p] at this; omega
theorem cn_up (P : Nat → Prop) (n : Nat) : cn P n ≤ n := by
  induction n with
  | zero => exact Nat.le_refl _
  | succ n ih =>
    by_cases p : P n
    · rw [cn_s p]; omega
    · rw [cn_n p]; omega
theorem cn_congr {P Q : Nat → Prop} {n : Nat} (h : ∀ k, k < n → (P k ↔ Q k)) : cn P n = cn Q n := by
  induction n with
  | zero => rfl
  | succ n ih =>
    have := ih fun k hk => h k (by omega)
    by_cases p : P n
    · rw [cn_s p, cn_s ((h n (by omega)).mp p), this]
    · rw [cn_n p, cn_n (fun q => p ((h n (by omega)).mpr q)), this]
theorem cn_skip {P : Nat → Prop} {m n : Nat} (h : m ≤ n) (hp : ∀ k, m ≤ k → k < n → ¬ P k) : cn P n = cn P m := by
  induction n with
  | zero => have : m = 0 := by omega
            subst this; rfl
  | succ n ih =>
    by_cases e : m = n + 1
    · subst e; rfl
    · rw [cn_n (hp n (by omega) (by omega))]
      exact ih (by omega) fun k h1 h2 => hp k h1 (by omega)
theorem cn_inj {P : Nat → Prop} {m n : Nat} (hm : P m) (hn : P n) (h : cn P m = cn P n) : m = n := by
  rcases Nat.lt_trichotomy m n with z | z | z
  · have := cn_lt z hm; omega
  · exact z
  · have := cn_lt z hn; omega
/-- the k-th one below N -/
theorem cn_ex {P : Nat → Prop} {N k : Nat} (h : k < cn P N) : ∃ j, j < N ∧ P j ∧ cn P j = k := by
  induction N with
  | zero => exact absurd h (Nat.not_lt_zero _)
  | succ N ih =>
    by_cases p : P N
    · rw [cn_s p] at h
      by_cases e : k = cn P N
      · exact ⟨N, by omega, p, e.symm⟩
      · obtain ⟨j, h1, h2, h3⟩ := ih (by omega)
        exact ⟨j, by omega, h2, h3⟩
    · rw [cn_n p] at h
      obtain ⟨j, h1, h2, h3⟩ := ih h
      exact ⟨j, by omega, h2, h3⟩
/-- r is the value of the k-th one below N, or NONE: there are not so many -/
def Kth (P : Nat → Prop) (v : Nat → Int32) (N : Nat) (k r : Int32) : Prop :=
  (∃ j, j < N ∧ P j ∧ k = nI (cn P j) ∧ r = v j) ∨ ((k < 0 ∨ nI (cn P N) ≤ k) ∧ r = -1)
theorem Kth.uniq {P : Nat → Prop} {v : Nat → Int32} {N : Nat} {k r r' : Int32} (hN : N < 2 ^ 31) (h : Kth P v N k r) (h' : Kth P v N k r') : r = r' := by
  have key : ∀ j, j < N → P j → k = nI (cn P j) → ¬ (k < 0 ∨ nI (cn P N) ≤ k) := by
    intro j hj p e z
    have h1 := cn_lt hj p
    have h2 := cn_up P N
    have h3 := cn_up P j
    subst e
    rcases z with z | z
    · exact nI_pos (by omega) z
    · rw [nI_leI (by omega) (by omega)] at z; omega
  rcases h with ⟨j, h1, h2, h3, h4⟩ | ⟨h1, h2⟩ <;> rcases h' with ⟨i, g1, g2, g3, g4⟩ | ⟨g1, g2⟩
  · have u1 := cn_up P j
    have u2 := cn_up P i
    rw [h3, nI_eq (by omega) (by omega)] at g3
    have := cn_inj h2 g2 g3
    subst this
    rw [h4, g4]
  · exact absurd g1 (key j h1 h2 h3)
  · exact absurd h1 (key i g1 g2 g3)
  · rw [h2, g2]
