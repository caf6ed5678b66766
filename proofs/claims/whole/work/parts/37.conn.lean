/-! THE CLASS AND THE REFERENCE JOIN THE SAME -/
theorem tSh_w (d : DS) (w : Nat) : tSh d (120 + w) = wSh d w := by unfold tSh; rw [if_neg (by omega), show 120 + w - 120 = w from by omega]
theorem sSh_l (d : DS) (l : Nat) : sSh d (60 + l) = lSh d l := by unfold sSh; rw [if_neg (by omega), show 60 + l - 60 = l from by omega]
theorem cnd_l (d : DS) (t l : Nat) : cnd d t (60 + l) = cnm t (lNm d l) := by unfold cnd; rw [if_neg (by omega), show 60 + l - 60 = l from by omega]
theorem TT.sheet {d : DS} (hd : WF d) {a b : Nat} (h : TT d a b) : tSh d a = tSh d b := by
  have h5 : nP d ≤ 60 := hd.1.2.2.2.2.1
  have h4 : nL d ≤ 60 := hd.1.2.2.2.1
  have sl : ∀ x, isp d x → x < 120 := fun x hx => by rcases hx with z | z <;> omega
  rcases h with ⟨v, w, -, -, e, -, rfl, rfl⟩ | ⟨v, w, k, -, -, -, e1, e2, -, -, rfl, rfl⟩ | ⟨w, -, hb, e, -, rfl⟩ | ⟨ha, hb, e, -, -⟩
  · rw [tSh_w, tSh_w, e]
  · rw [tSh_w, tSh_w, e1, e2]
  · rw [tSh_w, e]; simp [tSh, sl b hb]
  · simp [tSh, sl a ha, sl b hb, e]
theorem cp_inj {d : DS} {t u : Nat} (hb : bas d t = bas d u) (h : cp d t = cp d u) : t = u := by
  have e : cp d u = cn (fun s => bas d s = bas d t) u := by unfold cp; rw [hb]
  rw [e] at h
  exact cn_inj (P := fun s => bas d s = bas d t) rfl hb.symm h
theorem cp_lt {d : DS} (hd : WF d) {t : Nat} (ht : t < nS d) : cp d t < cps d (bas d t) ∧ cps d (bas d t) ≤ 16 := by
  have h1 := cn_lt (P := fun s => bas d s = bas d t) ht rfl
  have h2 := cn_up (fun s => bas d s = bas d t) (nS d)
  have h3 := hd.1.1
  unfold cp cps
  omega
theorem pr_ok {d : DS} (hd : WF d) {k : Nat} (hk : k < nO d) : pr d (oSh d k) < nS d ∧ par d (oSh d k) = nI (pr d (oSh d k)) := by
  obtain ⟨-, -, -, -, p, hp, e⟩ := hd.2.2.2.2.2.2.1 k hk
  have h3 := hd.1.1
  have : pr d (oSh d k) = p := by
    unfold pr
    rw [e, nI_clamp (by omega)]
  rw [this]; exact ⟨hp, e⟩
/-- a sheet by its drawn one and its copy -/
noncomputable def sht (d : DS) (s c : Nat) : Nat := @Classical.epsilon Nat ⟨0⟩ (fun t => t < nS d ∧ bas d t = s ∧ cp d t = c)
theorem sht_cp {d : DS} {t : Nat} (ht : t < nS d) : sht d (bas d t) (cp d t) = t := by
  obtain ⟨h1, h2, h3⟩ := @Classical.epsilon_spec Nat (fun u => u < nS d ∧ bas d u = bas d t ∧ cp d u = cp d t) ⟨t, ht, rfl, rfl⟩
  exact cp_inj h2 h3
/-- a class's node, in the reference -/
noncomputable def toR (d : DS) (u : Nat) : Nat := if u < 960 then 2560 + 16 * (u / 16) + sht d (pSh d (u / 16)) (u % 16) else if u < 2048 then rnm 0 (u - 60) else rnm (u / 2048 - 1) (u % 2048)
theorem toR_nm (d : DS) {s n : Nat} (hn : n < 1000) : toR d (cnm s n) = rnm s n := by
  unfold cnm
  split
  · rename_i z
    unfold toR
    rw [if_neg (by omega), if_pos (by omega)]
    simp [rnm, z]
  · rename_i z
    unfold toR
    rw [if_neg (by omega), if_neg (by omega), show (2048 * (1 + s) + n) / 2048 - 1 = s from by omega, show (2048 * (1 + s) + n) % 2048 = n from by omega]
theorem toR_pin {d : DS} (hd : WF d) {t p : Nat} (ht : t < nS d) (hp : p < 60) (hb : pSh d p = bas d t) : toR d (cnd d t p) = rnd t p := by
  have h1 := cp_lt hd ht
  have e : cnd d t p = 16 * p + cp d t := by simp [cnd, hp]
  rw [e]
  unfold toR
  rw [if_pos (by omega), show (16 * p + cp d t) / 16 = p from by omega, show (16 * p + cp d t) % 16 = cp d t from by omega, hb, sht_cp ht]
  simp [rnd, hp]
theorem EG_touch {d : DS} (hd : WF d) {t a b : Nat} (ht : t < nS d) (ha : tSh d a = bas d t) (h : EG (TT d) a b) : EG (SR d) (rnd t a) (rnd t b) ∧ tSh d b = bas d t := by
  have hb : tSh d b = bas d t := by
    have := h (fun x => tSh d x) fun x y hxy => TT.sheet hd hxy
    try dsimp only at this
    omega
  refine ⟨fun g hg => ?_, hb⟩
  have := h (fun x => if tSh d x = bas d t then g (rnd t x) + 1 else 0) fun x y hxy => by
    have e := TT.sheet hd hxy
    try dsimp only
    by_cases z : tSh d x = bas d t
    · rw [if_pos z, if_pos (by omega)]
      rw [hg _ _ (Or.inl ⟨t, x, y, ht, hxy, z, rfl, rfl⟩)]
    · rw [if_neg z, if_neg (by omega)]
  simp only [ha, hb, if_true] at this
  omega
theorem isp_lt {d : DS} (hd : WF d) {a : Nat} (h : isp d a) : a < 120 := by
  have h5 := hd.1.2.2.2.2.1
  have h4 := hd.1.2.2.2.1
  rcases h with z | z <;> omega
theorem tSh_sp {d : DS} (hd : WF d) {a : Nat} (h : isp d a) : tSh d a = sSh d a := by simp [tSh, isp_lt hd h]
/-- a spot's node in the class is, in the reference, joined to its node there -/
theorem toR_sp {d : DS} (hd : WF d) {t a : Nat} (ht : t < nS d) (ha : isp d a) (hb : sSh d a = bas d t) : EG (SR d) (toR d (cnd d t a)) (rnd t a) := by
  have h5 := hd.1.2.2.2.2.1
  by_cases z : a < 60
  · rw [toR_pin hd ht z (by simpa [sSh, z] using hb)]; exact EG.rf _
  · have hl : a - 60 < nL d := by rcases ha with w | w <;> omega
    have hn := (hd.2.2.2.2.1 _ hl).2.2
    have e : cnd d t a = cnm t (lNm d (a - 60)) := by simp [cnd, z]
    rw [e, toR_nm d hn]
    refine (EG.of (Or.inr (Or.inl ⟨t, a - 60, ht, hl, by simpa [sSh, z] using hb, ?_, rfl⟩))).sy
    rw [show 60 + (a - 60) = a from by omega]
theorem mem_lt {d : DS} (hd : WF d) {b i : Nat} (hb : b < nU d) (hi : i < mbs d b) : mem d b i < 1000 := by
  obtain ⟨-, -, -, h4, h5⟩ := hd.2.2.2.2.2.2.2 b hb
  unfold mem
  unfold mbs at hi
  split <;> rename_i z
  · omega
  · rw [if_neg z] at hi; omega
theorem C_to_R {d : DS} (hd : WF d) {x y : Nat} (h : EG (SC d) x y) : EG (SR d) (toR d x) (toR d y) := by
  refine h.map (toR d) ?_
  rintro x y (⟨t, a, b, ht, ha, hb, h1, h2, h3, rfl, rfl⟩ | ⟨b, t, i, hb, ht, h1, h2, rfl, h3⟩ | ⟨k, hk, rfl, rfl⟩)
  · exact ((toR_sp hd ht ha h1).tr (EG_touch hd ht (by rw [tSh_sp hd ha]; exact h1) h3).1).tr (toR_sp hd ht hb h2).sy
  · have hu := hd.2.2.2.2.2.2.2 b hb
    rcases h3 with ⟨g1, g2, rfl⟩ | ⟨g1, c, g2, g3, rfl⟩
    · rw [toR_nm d (mem_lt hd hb h2), toR_nm d (mem_lt hd hb h2)]
      exact EG.of (Or.inr (Or.inr (Or.inl ⟨b, t, b, uSh d b, i, hb, hb, ht, hu.1, ⟨h1, hu.2.1, rfl, Or.inr g1⟩, h2, h2, rfl, rfl⟩)))
    · have hc : c < nU d := Nat.lt_trans g2.1 hb
      have hv := hd.2.2.2.2.2.2.2 c hc
      rw [toR_nm d (mem_lt hd hb h2), toR_nm d (mem_lt hd hc g3)]
      obtain ⟨m1, m2⟩ := g2.2.1
      by_cases z : 900 ≤ uNm d b
      · rw [if_pos z]
        exact EG.of (Or.inr (Or.inr (Or.inl ⟨b, t, c, uSh d c, i, hb, hc, ht, hv.1, ⟨h1, hv.2.1, m1.symm, Or.inr z⟩, h2, g3, rfl, rfl⟩)))
      · rw [if_neg z]
        have m3 : uSh d c = uSh d b := by rcases m2 with w | w; exact absurd w z; exact w
        exact EG.of (Or.inr (Or.inr (Or.inl ⟨b, t, c, t, i, hb, hc, ht, ht, ⟨h1, by rw [m3]; exact h1, m1.symm, Or.inl rfl⟩, h2, g3, rfl, rfl⟩)))
  · obtain ⟨g1, g2, g3, g4, -⟩ := hd.2.2.2.2.2.2.1 k hk
    have hn := (hd.2.2.2.2.1 _ g2).2.2
    rw [toR_nm d hn, toR_nm d g4]
    exact (EG.of (Or.inr (Or.inl ⟨oSh d k, oLb d k, g1, g2, g3, rfl, rfl⟩))).sy.tr (EG.of (Or.inr (Or.inr (Or.inr ⟨k, hk, rfl, rfl⟩))))
/-! buses: the longest earlier one is enough -/
theorem lgb_ex {d : DS} {b : Nat} : ∀ n, n ≤ b → (∃ x, x < n ∧ meets d x b) → ∃ c, c < n ∧ meets d c b ∧ (∀ x, x < n → meets d x b → mbs d x ≤ mbs d c) ∧ ∀ x, x < c → meets d x b → mbs d x < mbs d c := by
  intro n
  induction n with
  | zero => rintro _ ⟨x, hx, _⟩; exact absurd hx (Nat.not_lt_zero _)
  | succ n ih =>
    rintro hn ⟨x, hx, hm⟩
    by_cases z : ∃ x, x < n ∧ meets d x b
    · obtain ⟨c, c1, c2, c3, c4⟩ := ih (by omega) z
      by_cases w : meets d n b ∧ mbs d c < mbs d n
      · refine ⟨n, by omega, w.1, fun y hy m => ?_, fun y hy m => ?_⟩
        · rcases Nat.lt_or_ge y n with v | v
          · have := c3 y v m; omega
          · have : y = n := by omega
            subst this; omega
        · have := c3 y hy m; omega
      · refine ⟨c, by omega, c2, fun y hy m => ?_, c4⟩
        rcases Nat.lt_or_ge y n with v | v
        · exact c3 y v m
        · have e : y = n := by omega
          subst e
          exact Nat.le_of_not_lt fun v => w ⟨m, v⟩
    · have e : x = n := by
        rcases Nat.lt_or_ge x n with v | v
        · exact absurd ⟨x, v, hm⟩ z
        · omega
      subst e
      refine ⟨x, by omega, hm, fun y hy m => ?_, fun y hy m => absurd ⟨y, hy, m⟩ z⟩
      rcases Nat.lt_or_ge y x with v | v
      · exact absurd ⟨y, v, m⟩ z
      · have : y = x := by omega
        subst this; exact Nat.le_refl _
/-- where the members of a bus on a sheet stand: on the drawn sheet for a power bus -/
theorem bus_home {d : DS} {b t i : Nat} (hb : b < nU d) (ht : t < nS d) (h1 : bas d t = uSh d b) (hi : i < mbs d b) : EG (SC d) (cnm t (mem d b i)) (cnm (if 900 ≤ uNm d b then uSh d b else t) (mem d b i)) := by
  by_cases z : 900 ≤ uNm d b
  · rw [if_pos z]
    by_cases w : t = uSh d b
    · rw [w]; exact EG.rf _
    · exact EG.of (Or.inr (Or.inl ⟨b, t, i, hb, ht, h1, hi, rfl, Or.inl ⟨z, w, rfl⟩⟩))
  · rw [if_neg z]; exact EG.rf _
theorem bus_pair {d : DS} (hd : WF d) : ∀ b, b < nU d → ∀ c, c < b → meets d c b → ∀ t, t < nS d → bas d t = uSh d b → (900 ≤ uNm d b → t = uSh d b) → ∀ i, i < mbs d b → i < mbs d c → EG (SC d) (cnm t (mem d b i)) (cnm (if 900 ≤ uNm d b then uSh d c else t) (mem d c i)) := by
  intro b
  induction b using Nat.strongRecOn with
  | _ b ih =>
    intro hb c hc hm t ht h1 h2 i hi hj
    obtain ⟨g, g1, g2, g3, g4⟩ := lgb_ex (d := d) (b := b) b (Nat.le_refl _) ⟨c, hc, hm⟩
    have hg := g3 c hc hm
    have step : EG (SC d) (cnm t (mem d b i)) (cnm (if 900 ≤ uNm d b then uSh d g else t) (mem d g i)) :=
      EG.of (Or.inr (Or.inl ⟨b, t, i, hb, ht, h1, hi, rfl, Or.inr ⟨fun z => z.2 (h2 z.1), g, ⟨g1, g2, g3, g4⟩, by omega, rfl⟩⟩))
    refine step.tr ?_
    -- g and c both meet b
    obtain ⟨m1, m2⟩ := hm
    obtain ⟨n1, n2⟩ := g2
    have hgu := hd.2.2.2.2.2.2.2 g (by omega)
    have hcu := hd.2.2.2.2.2.2.2 c (by omega)
    have shg : ¬ 900 ≤ uNm d b → uSh d g = uSh d b := fun z => by rcases n2 with w | w; exact absurd w z; exact w
    have shc : ¬ 900 ≤ uNm d b → uSh d c = uSh d b := fun z => by rcases m2 with w | w; exact absurd w z; exact w
    have mm : ∀ x y, uNm d x = uNm d b → uNm d y = uNm d b → (¬ 900 ≤ uNm d b → uSh d x = uSh d b) → (¬ 900 ≤ uNm d b → uSh d y = uSh d b) → meets d x y := fun x y e1 e2 e3 e4 => by
      refine ⟨by omega, ?_⟩
      by_cases z : 900 ≤ uNm d b
      · left; omega
      · right; rw [e3 z, e4 z]
    rcases Nat.lt_trichotomy g c with z | z | z
    · have := ih c hc (by omega) g z (mm g c n1 m1 shg shc) (if 900 ≤ uNm d b then uSh d c else t) (by split; exact hcu.1; exact ht) (by split; exact hcu.2.1; rename_i w; rw [h1, shc w]) (fun w => by rw [if_pos (by omega)]) i hj (by omega)
      rw [m1] at this
      by_cases w : 900 ≤ uNm d b
      · simp only [w, if_true] at this ⊢; exact this.sy
      · simp only [w, if_false] at this ⊢; exact this.sy
    · subst z; exact EG.rf _
    · have := ih g g1 (by omega) c z (mm c g m1 n1 shc shg) (if 900 ≤ uNm d b then uSh d g else t) (by split; exact hgu.1; exact ht) (by split; exact hgu.2.1; rename_i w; rw [h1, shg w]) (fun w => by rw [if_pos (by omega)]) i (by omega) hj
      rw [n1] at this
      by_cases w : 900 ≤ uNm d b
      · simp only [w, if_true] at this ⊢; exact this
      · simp only [w, if_false] at this ⊢; exact this
theorem bus_all {d : DS} (hd : WF d) {b t c u i : Nat} (hb : b < nU d) (hc : c < nU d) (ht : t < nS d) (hu : u < nS d) (ha : alike d b t c u) (hi : i < mbs d b) (hj : i < mbs d c) : EG (SC d) (cnm t (mem d b i)) (cnm u (mem d c i)) := by
  obtain ⟨a1, a2, a3, a4⟩ := ha
  have hbu := hd.2.2.2.2.2.2.2 b hb
  have hcu := hd.2.2.2.2.2.2.2 c hc
  have e1 := bus_home hb ht a1 hi
  have e2 := bus_home hc hu a2 hj
  refine e1.tr (EG.tr ?_ e2.sy)
  rw [← a3]
  by_cases w : 900 ≤ uNm d b
  · simp only [w, if_true]
    rcases Nat.lt_trichotomy b c with z | z | z
    · have := bus_pair hd c hc b z ⟨a3, Or.inl (by omega)⟩ (uSh d c) hcu.1 hcu.2.1 (fun _ => rfl) i hj hi
      rw [← a3] at this
      simp only [w, if_true] at this
      exact this.sy
    · subst z; exact EG.rf _
    · have := bus_pair hd b hb c z ⟨a3.symm, Or.inl w⟩ (uSh d b) hbu.1 hbu.2.1 (fun _ => rfl) i hi hj
      simp only [w, if_true] at this
      exact this
  · simp only [w, if_false]
    have tu : t = u := by rcases a4 with z | z; exact z; exact absurd z w
    subst tu
    have sh : uSh d c = uSh d b := by omega
    rcases Nat.lt_trichotomy b c with z | z | z
    · have := bus_pair hd c hc b z ⟨a3, Or.inr sh.symm⟩ t ht a2 (fun z => absurd z (by omega)) i hj hi
      rw [← a3] at this
      simp only [w, if_false] at this
      exact this.sy
    · subst z; exact EG.rf _
    · have := bus_pair hd b hb c z ⟨a3.symm, Or.inr sh⟩ t ht a1 (fun z => absurd z w) i hi hj
      simp only [w, if_false] at this
      exact this
/-! and back -/
theorem rnd_dec {d : DS} (lt : Nat → Nat) (g : Nat → Nat) : ∃ L : Nat → Nat, (∀ t a, t < 16 → a < 220 → L (rnd t a) = if lt a < 120 then g (cnd d t (lt a)) else 0) ∧ ∀ s n, s < 16 → n < 1000 → L (rnm s n) = g (cnm s n) := by
  refine ⟨fun n => if n < 1600 then (if lt (120 + n / 16) < 120 then g (cnd d (n % 16) (lt (120 + n / 16))) else 0) else if n < 2560 then (if lt (60 + (n - 1600) / 16) < 120 then g (cnd d (n % 16) (lt (60 + (n - 1600) / 16))) else 0) else if n < 3520 then (if lt ((n - 2560) / 16) < 120 then g (cnd d (n % 16) (lt ((n - 2560) / 16))) else 0) else g (cnm ((n - 3520) / 1000) ((n - 3520) % 1000)), fun t a ht ha => ?_, fun s n hs hn => ?_⟩
  · unfold rnd
    by_cases z : a < 60
    · simp only [z, if_true]
      rw [if_neg (by omega), if_neg (by omega), if_pos (by omega), show (2560 + 16 * a + t - 2560) / 16 = a from by omega, show (2560 + 16 * a + t) % 16 = t from by omega]
    · simp only [z, if_false]
      by_cases w : a < 120
      · simp only [w, if_true]
        rw [if_neg (by omega), if_pos (by omega), show 60 + (1600 + 16 * (a - 60) + t - 1600) / 16 = a from by omega, show (1600 + 16 * (a - 60) + t) % 16 = t from by omega]
      · simp only [w, if_false]
        rw [if_pos (by omega), show 120 + (16 * (a - 120) + t) / 16 = a from by omega, show (16 * (a - 120) + t) % 16 = t from by omega]
  · unfold rnm
    by_cases z : 900 ≤ n
    · simp only [z, if_true]
      rw [if_neg (by omega), if_neg (by omega), if_neg (by omega), show (3520 + 0 + n - 3520) / 1000 = 0 from by omega, show (3520 + 0 + n - 3520) % 1000 = n from by omega]
      simp [cnm, z]
    · simp only [z, if_false]
      rw [if_neg (by omega), if_neg (by omega), if_neg (by omega), show (3520 + 1000 * s + n - 3520) / 1000 = s from by omega, show (3520 + 1000 * s + n - 3520) % 1000 = n from by omega]
theorem TT_lt {d : DS} (hd : WF d) {a b : Nat} (h : TT d a b) : a < 220 ∧ b < 220 := by
  have h2 := hd.1.2.1
  have sl : ∀ x, isp d x → x < 120 := fun x hx => isp_lt hd hx
  rcases h with ⟨v, w, h1, h2, -, -, rfl, rfl⟩ | ⟨v, w, k, -, h1, h2, -, -, -, -, rfl, rfl⟩ | ⟨w, h1, hb, -, -, rfl⟩ | ⟨ha, hb, -, -, -⟩
  · have := h1.1; have := h2.1; omega
  · have := h1.1; have := h2.1; omega
  · have := h1.1; have := sl b hb; omega
  · have := sl a ha; have := sl b hb; omega
theorem ld_sp {d : DS} (hd : WF d) {lt : Nat → Nat} (hT : LD lt (TT d)) {a : Nat} (ha : isp d a) : isp d (lt a) := by
  have h0 := isp_lt hd ha
  have h1 := hT.1 a
  have h2 := hT.2.1 a
  -- what is joined to a is a or stands in a pair
  have h3 := h2 (fun x => @ite Nat (isp d x ∨ 120 ≤ x) (Classical.propDecidable _) 1 0) fun x y hxy => by
    have hx : isp d x ∨ 120 ≤ x := by
      rcases hxy with ⟨v, w, -, -, -, -, rfl, rfl⟩ | ⟨v, w, k, -, -, -, -, -, -, -, rfl, rfl⟩ | ⟨w, -, -, -, -, rfl⟩ | ⟨ha, -, -, -, -⟩
      · right; omega
      · right; omega
      · right; omega
      · left; exact ha
    have hy : isp d y ∨ 120 ≤ y := by
      rcases hxy with ⟨v, w, -, -, -, -, rfl, rfl⟩ | ⟨v, w, k, -, -, -, -, -, -, -, rfl, rfl⟩ | ⟨w, -, hb, -, -, rfl⟩ | ⟨-, hb, -, -, -⟩
      · right; omega
      · right; omega
      · left; exact hb
      · left; exact hb
    try dsimp only
    rw [if_pos hx, if_pos hy]
  try dsimp only at h3
  rw [if_pos (Or.inl ha)] at h3
  refine Classical.byContradiction fun z => ?_
  rw [if_neg (fun w => by rcases w with w | w; exact z w; omega)] at h3
  omega
theorem R_to_C {d : DS} (hd : WF d) {lt : Nat → Nat} (hT : LD lt (TT d)) {t a u b : Nat} (ht : t < nS d) (hu : u < nS d) (ha : isp d a) (hb : isp d b) (h1 : sSh d a = bas d t) (h2 : sSh d b = bas d u) (h : EG (SR d) (rnd t a) (rnd u b)) : EG (SC d) (cnd d t a) (cnd d u b) := by
  have hS := hd.1.1
  intro g hg
  obtain ⟨L, L1, L2⟩ := rnd_dec (d := d) lt g
  have sp : ∀ t a, t < nS d → isp d a → sSh d a = bas d t → L (rnd t a) = g (cnd d t a) := by
    intro t a ht ha hb
    have h0 := isp_lt hd ha
    have h3 := hT.1 a
    rw [L1 t a (by omega) (by omega), if_pos (by omega)]
    have e := (EG_touch hd ht (by rw [tSh_sp hd ha]; exact hb) (hT.2.1 a)).2
    have i := ld_sp hd hT ha
    rw [tSh_sp hd i] at e
    exact (hg _ _ (Or.inl ⟨t, a, lt a, ht, ha, i, hb, e, hT.2.1 a, rfl, rfl⟩)).symm
  have key := h L fun x y hxy => by
    rcases hxy with ⟨t, a, b, ht, hab, hs, rfl, rfl⟩ | ⟨t, l, ht, hl, hs, rfl, rfl⟩ | ⟨b, t, c, u, i, hb, hc, ht, hu, hal, hi, hj, rfl, rfl⟩ | ⟨k, hk, rfl, rfl⟩
    · obtain ⟨q1, q2⟩ := TT_lt hd hab
      rw [L1 t a (by omega) q1, L1 t b (by omega) q2, hT.2.2 a b hab]
    · have hn := hd.2.2.2.2.1 l hl
      rw [L2 t _ (by omega) hn.2.2, sp t (60 + l) ht (Or.inr ⟨by omega, by omega⟩) (by rw [sSh_l]; exact hs), cnd_l]
    · rw [L2 t _ (by omega) (mem_lt hd hb hi), L2 u _ (by omega) (mem_lt hd hc hj)]
      exact bus_all hd hb hc ht hu hal hi hj g hg
    · obtain ⟨g1, g2, g3, g4, -⟩ := hd.2.2.2.2.2.2.1 k hk
      have hn := (hd.2.2.2.2.1 _ g2).2.2
      have hp := pr_ok hd hk
      rw [L2 _ _ (by omega) g4, sp (oSh d k) (60 + oLb d k) g1 (Or.inr ⟨by omega, by omega⟩) (by rw [sSh_l]; exact g3), cnd_l]
      exact hg _ _ (Or.inr (Or.inr ⟨k, hk, rfl, rfl⟩))
  rw [sp t a ht ha h1, sp u b hu hb h2] at key
  exact key
theorem CR_iff {d : DS} (hd : WF d) {lt : Nat → Nat} (hT : LD lt (TT d)) {t a u b : Nat} (ht : t < nS d) (hu : u < nS d) (ha : isp d a) (hb : isp d b) (h1 : sSh d a = bas d t) (h2 : sSh d b = bas d u) : EG (SR d) (rnd t a) (rnd u b) ↔ EG (SC d) (cnd d t a) (cnd d u b) :=
  ⟨R_to_C hd hT ht hu ha hb h1 h2, fun h => ((toR_sp hd ht ha h1).sy.tr (C_to_R hd h)).tr (toR_sp hd hu hb h2)⟩
