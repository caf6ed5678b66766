/-! NETS. Copies of pins by the reference's codes 16 p + t -/
def vR (d : DS) (k : Nat) : Prop := k / 16 < nP d ∧ k % 16 < nS d ∧ bas d (k % 16) = pSh d (k / 16)
def RR (d : DS) (j k : Nat) : Prop := EG (SR d) (2560 + j) (2560 + k)
def fst (d : DS) (k : Nat) : Prop := vR d k ∧ ∀ j, j < k → vR d j → ¬ RR d j k
noncomputable def lst (d : DS) (k : Nat) : Nat := @Classical.epsilon Nat ⟨0⟩ (fun j => (vR d j ∧ RR d j k) ∧ ∀ i, i < j → ¬ (vR d i ∧ RR d i k))
noncomputable def nn (d : DS) (k : Nat) : Nat := cn (fst d) (lst d k)
noncomputable def cnt (d : DS) : Nat := cn (fst d) 960
/-- the class's code of the same copy -/
noncomputable def ck (d : DS) (k : Nat) : Nat := 16 * (k / 16) + cp d (k % 16)
section NUM
variable {d : DS}
theorem vR_lt (hd : WF d) {k : Nat} (h : vR d k) : k < 960 := by
  have := hd.1.2.2.2.2.1
  have := h.1
  omega
theorem RR.rf (k : Nat) : RR d k k := EG.rf _
theorem RR.sy {j k : Nat} (h : RR d j k) : RR d k j := EG.sy h
theorem RR.tr {i j k : Nat} (h : RR d i j) (g : RR d j k) : RR d i k := EG.tr h g
theorem lst_spec {k : Nat} (h : vR d k) : vR d (lst d k) ∧ RR d (lst d k) k ∧ lst d k ≤ k ∧ ∀ i, i < lst d k → vR d i → ¬ RR d i k := by
  obtain ⟨j, j1, j2⟩ := pk_least (fun j => vR d j ∧ RR d j k) ⟨k, h, RR.rf k⟩
  obtain ⟨⟨e1, e2⟩, e3⟩ := @Classical.epsilon_spec Nat (fun j => (vR d j ∧ RR d j k) ∧ ∀ i, i < j → ¬ (vR d i ∧ RR d i k)) ⟨j, j1, j2⟩
  refine ⟨e1, e2, Nat.le_of_not_lt fun z => e3 k z ⟨h, RR.rf k⟩, fun i hi v r => e3 i hi ⟨v, r⟩⟩
theorem fst_lst {k : Nat} (h : vR d k) : fst d (lst d k) := by
  obtain ⟨h1, h2, h3, h4⟩ := lst_spec h
  exact ⟨h1, fun j hj v r => h4 j hj v (r.tr h2)⟩
theorem lst_eq {j k : Nat} (hj : vR d j) (hk : vR d k) : lst d j = lst d k ↔ RR d j k := by
  obtain ⟨h1, h2, h3, h4⟩ := lst_spec hj
  obtain ⟨g1, g2, g3, g4⟩ := lst_spec hk
  constructor
  · intro e; rw [e] at h2; exact h2.sy.tr g2
  · intro r
    rcases Nat.lt_trichotomy (lst d j) (lst d k) with z | z | z
    · exact absurd (h2.tr r) (g4 _ z h1)
    · exact z
    · exact absurd (g2.tr r.sy) (h4 _ z g1)
theorem nn_eq {j k : Nat} (hj : vR d j) (hk : vR d k) : nn d j = nn d k ↔ RR d j k := by
  rw [← lst_eq hj hk]
  constructor
  · intro e; exact cn_inj (fst_lst hj) (fst_lst hk) e
  · intro e; unfold nn; rw [e]
theorem nn_lt (hd : WF d) {k : Nat} (hk : vR d k) : nn d k < cnt d ∧ cnt d ≤ 960 := by
  refine ⟨cn_lt ?_ (fst_lst hk), cn_up _ _⟩
  exact vR_lt hd (lst_spec hk).1
theorem lst_fst {k : Nat} (h : fst d k) : lst d k = k := by
  obtain ⟨h1, h2, h3, h4⟩ := lst_spec h.1
  rcases Nat.lt_or_ge (lst d k) k with z | z
  · exact absurd h2 (h.2 _ z h1)
  · omega
theorem nn_fst {k : Nat} (h : fst d k) : nn d k = cn (fst d) k := by unfold nn; rw [lst_fst h]
theorem fst_iff {k : Nat} (h : vR d k) : fst d k ↔ lst d k = k := ⟨lst_fst, fun e => by rw [← e]; exact fst_lst h⟩
/-! the class's codes -/
theorem cp_mono {t u : Nat} (hb : bas d t = bas d u) (h : t < u) : cp d t < cp d u := by
  have e : cp d u = cn (fun s => bas d s = bas d t) u := by unfold cp; rw [hb]
  rw [e]
  exact cn_lt (P := fun s => bas d s = bas d t) h rfl
theorem ck_lt (hd : WF d) {k : Nat} (h : vR d k) : ck d k < 960 ∧ ck d k / 16 = k / 16 ∧ ck d k % 16 = cp d (k % 16) := by
  have h1 := cp_lt hd h.2.1
  have h2 := hd.1.2.2.2.2.1
  have h3 := h.1
  unfold ck
  omega
theorem ck_inj (hd : WF d) {j k : Nat} (hj : vR d j) (hk : vR d k) (e : ck d j = ck d k) : j = k := by
  obtain ⟨-, a1, a2⟩ := ck_lt hd hj
  obtain ⟨-, b1, b2⟩ := ck_lt hd hk
  have p : j / 16 = k / 16 := by rw [← a1, ← b1, e]
  have c : cp d (j % 16) = cp d (k % 16) := by rw [← a2, ← b2, e]
  have := cp_inj (by rw [hj.2.2, hk.2.2, p]) c
  omega
theorem ck_mono (hd : WF d) {j k : Nat} (hj : vR d j) (hk : vR d k) (h : j < k) : ck d j < ck d k := by
  have h1 := cp_lt hd hj.2.1
  have h2 := cp_lt hd hk.2.1
  unfold ck
  by_cases p : j / 16 = k / 16
  · have := cp_mono (d := d) (t := j % 16) (u := k % 16) (by rw [hj.2.2, hk.2.2, p]) (by omega)
    omega
  · omega
theorem ck_cnd (hd : WF d) {k : Nat} (h : vR d k) : ck d k = cnd d (k % 16) (k / 16) ∧ isp d (k / 16) ∧ sSh d (k / 16) = bas d (k % 16) ∧ rnd (k % 16) (k / 16) = 2560 + k := by
  have h2 := hd.1.2.2.2.2.1
  have h3 := h.1
  have z : k / 16 < 60 := by omega
  refine ⟨by simp [ck, cnd, z], Or.inl h3, by simp [sSh, z, h.2.2], ?_⟩
  simp [rnd, z]; omega
theorem RR_SC (hd : WF d) {lt : Nat → Nat} (hT : LD lt (TT d)) {j k : Nat} (hj : vR d j) (hk : vR d k) : RR d j k ↔ EG (SC d) (ck d j) (ck d k) := by
  obtain ⟨a1, a2, a3, a4⟩ := ck_cnd hd hj
  obtain ⟨b1, b2, b3, b4⟩ := ck_cnd hd hk
  unfold RR
  rw [← a4, ← b4, a1, b1]
  exact CR_iff hd hT hj.2.1 hk.2.1 a2 b2 a3 b3
/-- a node below 960 that is joined to something is a copy's -/
theorem SC_node (hd : WF d) {x y : Nat} (h : SC d x y) : ((∃ k, vR d k ∧ x = ck d k) ∨ 960 ≤ x) ∧ ((∃ k, vR d k ∧ y = ck d k) ∨ 960 ≤ y) := by
  have nm : ∀ s n, 960 ≤ cnm s n := fun s n => by unfold cnm; split <;> omega
  have h5 := hd.1.2.2.2.2.1
  have hS := hd.1.1
  have sp : ∀ t a, t < nS d → isp d a → sSh d a = bas d t → (∃ k, vR d k ∧ cnd d t a = ck d k) ∨ 960 ≤ cnd d t a := by
    intro t a ht ha hs
    by_cases z : a < 60
    · left
      have v : vR d (16 * a + t) := by
        refine ⟨?_, ?_, ?_⟩
        · rcases ha with w | w <;> omega
        · omega
        · rw [show (16 * a + t) % 16 = t from by omega, show (16 * a + t) / 16 = a from by omega]
          simpa [sSh, z] using hs.symm
      refine ⟨16 * a + t, v, ?_⟩
      rw [(ck_cnd hd v).1, show (16 * a + t) % 16 = t from by omega, show (16 * a + t) / 16 = a from by omega]
    · right; unfold cnd; rw [if_neg z]; exact nm _ _
  rcases h with ⟨t, a, b, ht, ha, hb, h1, h2, -, rfl, rfl⟩ | ⟨b, t, i, -, -, -, -, rfl, h⟩ | ⟨k, -, rfl, rfl⟩
  · exact ⟨sp t a ht ha h1, sp t b ht hb h2⟩
  · refine ⟨Or.inr (nm _ _), Or.inr ?_⟩
    rcases h with ⟨-, -, rfl⟩ | ⟨-, c, -, -, rfl⟩ <;> exact nm _ _
  · exact ⟨Or.inr (nm _ _), Or.inr (nm _ _)⟩
theorem EG_node (hd : WF d) {x y : Nat} (h : EG (SC d) x y) (hx : (∃ k, vR d k ∧ x = ck d k) ∨ 960 ≤ x) : (∃ k, vR d k ∧ y = ck d k) ∨ 960 ≤ y := by
  have := h (fun z => @ite Nat ((∃ k, vR d k ∧ z = ck d k) ∨ 960 ≤ z) (Classical.propDecidable _) 1 0) fun a b hab => by
    obtain ⟨p, q⟩ := SC_node hd hab
    rw [if_pos p, if_pos q]
  rw [if_pos hx] at this
  refine Classical.byContradiction fun z => ?_
  rw [if_neg z] at this
  omega
/-- the least node of a net is its first copy's -/
theorem root_ck (hd : WF d) {lt lj : Nat → Nat} (hT : LD lt (TT d)) (hJ : LD lj (SC d)) {k : Nat} (hk : vR d k) : lj (ck d k) = ck d (lst d k) := by
  obtain ⟨g1, g2, g3, g4⟩ := lst_spec hk
  have e1 : lj (ck d k) = lj (ck d (lst d k)) := (hJ.iff _ _).mpr ((RR_SC hd hT hk g1).mp g2.sy)
  rw [e1]
  have l1 := hJ.1 (ck d (lst d k))
  have l2 := hJ.2.1 (ck d (lst d k))
  have b0 := (ck_lt hd g1).1
  rcases EG_node hd l2 (Or.inl ⟨_, g1, rfl⟩) with ⟨j, vj, ej⟩ | z
  · rw [ej]
    rw [ej] at l1 l2
    have r := (RR_SC hd hT g1 vj).mpr l2
    have : ¬ j < lst d k := fun z => g4 j z vj (r.sy.tr g2)
    by_cases w : j = lst d k
    · rw [w]
    · have := ck_mono hd g1 vj (by omega)
      omega
  · omega
/-- a label's node: in the net of the first copy that it is joined to, or in none -/
theorem label_net (hd : WF d) {lt lj : Nat → Nat} (hT : LD lt (TT d)) (hJ : LD lj (SC d)) {l t : Nat} (hl : l < nL d) (ht : t < nS d) (hs : lSh d l = bas d t) :
    (960 ≤ lj (cnm t (lNm d l)) ∧ ∀ k, vR d k → ¬ EG (SR d) (rnd t (60 + l)) (2560 + k)) ∨ ∃ k, fst d k ∧ lj (cnm t (lNm d l)) = ck d k ∧ EG (SR d) (rnd t (60 + l)) (2560 + k) := by
  have i : isp d (60 + l) := Or.inr ⟨by omega, by omega⟩
  have s : sSh d (60 + l) = bas d t := by rw [sSh_l]; exact hs
  have key : ∀ k, vR d k → (EG (SR d) (rnd t (60 + l)) (2560 + k) ↔ lj (cnm t (lNm d l)) = lj (ck d k)) := by
    intro k hk
    obtain ⟨b1, b2, b3, b4⟩ := ck_cnd hd hk
    rw [← b4, CR_iff hd hT ht hk.2.1 i b2 s b3, ← b1, cnd_l, hJ.iff]
  by_cases z : ∃ k, vR d k ∧ EG (SR d) (rnd t (60 + l)) (2560 + k)
  · obtain ⟨k, hk, h1⟩ := z
    right
    refine ⟨lst d k, fst_lst hk, ?_, ?_⟩
    · rw [(key k hk).mp h1, root_ck hd hT hJ hk]
    · exact h1.tr (lst_spec hk).2.1.sy
  · left
    refine ⟨?_, fun k hk h => z ⟨k, hk, h⟩⟩
    have l2 := hJ.2.1 (cnm t (lNm d l))
    have nm : 960 ≤ cnm t (lNm d l) := by unfold cnm; split <;> omega
    rcases EG_node hd l2 (Or.inr nm) with ⟨k, hk, e⟩ | w
    · exfalso
      refine z ⟨k, hk, (key k hk).mpr ?_⟩
      rw [← e, hJ.idem]
    · exact w
end NUM
/-! CHANGED: no net had just these copies before -/
def Chg (c d : DS) (n : Nat) : Prop := ¬ ∃ k, vR c k ∧ ∀ j, (vR d j ∧ nn d j = n) ↔ (vR c j ∧ RR c j k)
/-- copies stay -/
def grows (c d : DS) : Prop := ∀ k, vR c k → vR d k ∧ ck c k = ck d k
/-- where the least one differs, or the one that was -/
def mkd (c d : DS) (n : Nat) : Prop := ∃ j, vR d j ∧ ¬ (vR c j ∧ lst c j = lst d j) ∧ (nn d j = n ∨ (vR c j ∧ nn d (lst c j) = n))
theorem mkd_iff {c d : DS} (hd : WF d) (g : grows c d) {n : Nat} (hn : n < cnt d) : mkd c d n ↔ Chg c d n := by
  constructor
  · rintro ⟨j, vj, dj, hj⟩ ⟨k, vk, hk⟩
    -- all of the net n: the same least one before
    have key : ∀ i, vR d i → nn d i = n → vR c i ∧ lst c i = lst d i := by
      intro i vi ni
      obtain ⟨ci, ri⟩ := (hk i).mp ⟨vi, ni⟩
      refine ⟨ci, ?_⟩
      obtain ⟨a1, a2, a3, a4⟩ := lst_spec ci
      obtain ⟨b1, b2, b3, b4⟩ := lst_spec vi
      have m1 : vR d (lst c i) ∧ nn d (lst c i) = n := (hk _).mpr ⟨a1, a2.tr ri⟩
      have m2 : vR c (lst d i) ∧ RR c (lst d i) k := (hk _).mp ⟨b1, by rw [← ni]; exact (nn_eq b1 vi).mpr b2⟩
      rcases Nat.lt_trichotomy (lst c i) (lst d i) with z | z | z
      · exact absurd ((nn_eq m1.1 vi).mp (by rw [m1.2, ni])) (b4 _ z m1.1)
      · exact z
      · exact absurd (m2.2.tr ri.sy) (a4 _ z m2.1)
    rcases hj with hj | ⟨cj, hj⟩
    · exact dj (key j vj hj)
    · obtain ⟨a1, a2, a3, a4⟩ := lst_spec cj
      obtain ⟨-, r⟩ := (hk _).mp ⟨(g _ a1).1, hj⟩
      have := (hk j).mpr ⟨cj, a2.sy.tr r⟩
      exact dj (key j vj this.2)
  · intro h
    obtain ⟨k0, -, f0, e0⟩ := cn_ex hn
    have n0 : nn d k0 = n := by rw [nn_fst f0, e0]
    refine Classical.byContradiction fun no => h ?_
    have all : ∀ i, vR d i → nn d i = n → vR c i ∧ lst c i = k0 := by
      intro i vi ni
      have w : vR c i ∧ lst c i = lst d i := Classical.byContradiction fun z => no ⟨i, vi, z, Or.inl ni⟩
      have e : lst d i = k0 := by
        rw [(lst_eq vi f0.1).mpr ((nn_eq vi f0.1).mp (by rw [ni, n0])), lst_fst f0]
      exact ⟨w.1, by rw [w.2, e]⟩
    obtain ⟨v0, l0⟩ := all k0 f0.1 n0
    refine ⟨k0, v0, fun j => ⟨fun hj => ?_, fun hj => ?_⟩⟩
    · obtain ⟨a, b⟩ := all j hj.1 hj.2
      exact ⟨a, (lst_eq a v0).mp (by rw [b, l0])⟩
    · obtain ⟨cj, rj⟩ := hj
      have vj := (g j cj).1
      refine ⟨vj, Classical.byContradiction fun nj => no ⟨j, vj, fun w => nj ?_, Or.inr ⟨cj, ?_⟩⟩⟩
      · have e : lst c j = k0 := by rw [(lst_eq cj v0).mpr rj, l0]
        rw [e] at w
        obtain ⟨b1, b2, b3, b4⟩ := lst_spec vj
        rw [← w.2] at b2
        rw [← n0]; exact ((nn_eq f0.1 vj).mpr b2).symm
      · rw [(lst_eq cj v0).mpr rj, l0, n0]
