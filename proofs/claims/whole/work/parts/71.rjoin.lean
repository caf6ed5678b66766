def XR (vm : Nat) (R : Nat → Nat) (B : Nat → Nat × Nat) (h : HS) (d : DS) (S : Nat → Nat → Prop) : Prop := RS vm R B h ∧ RD vm R h d ∧ ∃ ld, NR R h ld ∧ LD ld S
abbrev smj (R : Nat → Nat) : HS → HS → Prop := sm (fun a => a ≠ R 825)
section RJN
variable {Z : Nat → Nat} {vm : Nat} {R : Nat → Nat} {B : Nat → Nat × Nat} {h h' : HS} {d : DS} {S : Nat → Nat → Prop}
theorem XR.eq {T : Nat → Nat → Prop} (X : XR vm R B h d S) (e : T = S) : XR vm R B h d T := by rw [e]; exact X
theorem XR.mo {T : Nat → Nat → Prop} (X : XR vm R B h d S) (h1 : ∀ x y, S x y → EG T x y) (h2 : ∀ x y, T x y → EG S x y) : XR vm R B h d T := by
  obtain ⟨C, T1, ld, J, L⟩ := X
  exact ⟨C, T1, ld, J, L.mo h1 h2⟩
/-- near alone is written -/
theorem RS.near (S : RS vm R B h) {i : Nat} {v : Int32} (e : h' = sA h (R 825) i v) : RS vm R B h' := by
  rw [e]; unfold RS at S ⊢
  simp only [gR_sA, gT_sA, gN_sA]; exact S
theorem RD.near (D : RD vm R h d) (S : RS vm R B h) (s : smj R h h') : RD vm R h' d := by
  have cv := s vm (Ne.symm (S.nv (f := 825) (by decide)))
  refine D.frame (fun f _ _ => by rw [cv.I]) fun f h1 h2 hf => ?_
  have c := s (R f) (S.ne hf (by decide) (by omega))
  exact ⟨c.A, c.L⟩
theorem RS.smj (S : RS vm R B h) (s : smj R h h') (t : gT h' (R 825) = gT h (R 825)) (n : gN h' (R 825) = gN h (R 825)) : RS vm R B h' := by
  have cv := s vm (Ne.symm (S.nv (f := 825) (by decide)))
  refine ⟨by rw [cv.T]; exact S.1, S.2.1, fun f hf => ?_⟩
  obtain ⟨q1, q2, q3, q4⟩ := S.2.2 f hf
  refine ⟨by rw [cv.R]; exact q1, q2, ?_, ?_⟩
  · by_cases e : f = 825
    · subst e; rw [t]; exact q3
    · rw [(s (R f) (S.ne hf (by decide) e)).T]; exact q3
  · by_cases e : f = 825
    · subst e; rw [n]; exact q4
    · rw [(s (R f) (S.ne hf (by decide) e)).N]; exact q4
theorem XR.join {post : HS → Prop} (X : XR vm R B h d S) {a b : Nat} (ha : a < 19520) (hb : b < 19520) (kk : ∀ h', XR vm R B h' d (fun x y => S x y ∨ (x = a ∧ y = b)) → smj R h h' → post h') : wp_Mod_join Z post h vm (nI a) (nI b) := by
  obtain ⟨C, D, ld, N, L⟩ := X
  obtain ⟨up, U, F, O⟩ := id N
  have ra := F.root a ha
  have rb := F.root b hb
  have la := L.1 a
  have lb := L.1 b
  have la' : ld a < 19520 := by omega
  have lb' : ld b < 19520 := by omega
  have F1 := F.join (a := a) (b := b) ha hb
  have jl : ∀ m, ld m = ld a ∨ ld m = ld b → jn ld a b m = min (ld a) (ld b) := fun m hm => by unfold jn; rw [if_pos hm]
  have jlo : jn ld a b (min (ld a) (ld b)) = min (ld a) (ld b) := by
    refine jl _ ?_
    rcases Nat.le_total (ld a) (ld b) with z | z
    · rw [Nat.min_eq_left z, ra.2]; exact Or.inl rfl
    · rw [Nat.min_eq_right z, rb.2]; exact Or.inr rfl
  have F2 := F1.put (k := a) (v := min (ld a) (ld b)) (by show min (ld a) (ld b) < 19520; omega) (by omega) (by rw [jlo, jl a (Or.inl rfl)]) (fun e => by rw [jl a (Or.inl rfl)]; exact e)
  have F3 := F2.put (k := b) (v := min (ld a) (ld b)) (by show min (ld a) (ld b) < 19520; omega) (by omega) (by rw [jlo, jl b (Or.inr rfl)]) (fun e => by rw [jl b (Or.inr rfl)]; exact e)
  refine ⟨C.1, r_leader C N ha ⟨C.1, r_leader C N hb ?_⟩⟩
  -- the end: three writes
  have fin : ∀ h1, RS vm R B h1 → smj R h h1 → (∀ n, n < 19520 → gA h1 (R 825) n = nI (va_up up (max (ld a) (ld b)) (min (ld a) (ld b)) n)) → wj_Mod_join_38 Z post vm (nI a) (nI b) (nI (ld a)) (nI (ld b)) h1 := by
    intro h1 C1 s1 U1
    obtain ⟨q1, q2, q3, q4⟩ := C1.2.2 825 (by decide)
    have two : ∀ lo, lo = min (ld a) (ld b) → wj_Mod_join_55 Z post vm (nI b) (nI (ld a)) (nI (ld b)) (nI lo) (nI a) (gR h1 825 vm) h1 := by
      intro lo el
      rw [q1]
      refine ⟨R 825, rfl, q3, by rw [q4]; exact pk_in a _ ha rfl (rN_lt _), ?_⟩
      intro h2 e2
      rw [jr_cl (by omega)] at e2
      have C2 := C1.near e2
      have s2 : smj R h h2 := sm_tr s1 (by rw [e2]; exact fun x hx => ce_sA hx)
      have U2 : ∀ n, n < 19520 → gA h2 (R 825) n = nI (va_up (va_up up (max (ld a) (ld b)) (min (ld a) (ld b))) a (min (ld a) (ld b)) n) := by
        intro n hn
        rw [e2, gA_sA]
        by_cases w : n = a
        · rw [if_pos ⟨rfl, w⟩, w, va_up_self, el]
        · rw [if_neg (fun y => w y.2), va_up_ne _ _ w]; exact U1 n hn
      clear e2
      obtain ⟨p1, p2, p3, p4⟩ := C2.2.2 825 (by decide)
      have last : ∀ lo, lo = min (ld a) (ld b) → ∃ a6, gR h2 825 vm = some a6 ∧ gT h2 a6 = 1 ∧ vp_in (nI b) (gN h2 a6) ∧ ∀ h8, h8 = sA h2 a6 (nI b).toNatClampNeg (nI lo) → post h8 := by
        intro lo el
        refine C2.rd 825 1 b rfl (by decide) hb ?_
        intro h3 e3
        rw [jr_cl (by omega)] at e3
        have C3 := C2.near e3
        have s3 : smj R h h3 := sm_tr s2 (by rw [e3]; exact fun x hx => ce_sA hx)
        refine kk h3 ⟨C3, D.near C s3, jn ld a b, ⟨_, fun n hn => ?_, F3, jn_out F O ha hb⟩, L.join a b⟩ s3
        rw [e3, gA_sA]
        by_cases w : n = b
        · rw [if_pos ⟨rfl, w⟩, w, va_up_self, el]
        · rw [if_neg (fun y => w y.2), va_up_ne _ _ w]; exact U2 n hn
      refine ⟨C2.1, pk_le (ld b) (ld a) (fun z => last _ (by omega)) (fun z => last _ (by omega))⟩
    exact ⟨C1.1, pk_le (ld b) (ld a) (fun z => two _ (by omega)) (fun z => two _ (by omega))⟩
  refine pk_le (ld b) (ld a) (fun z => ⟨C.1, C.rd 825 1 (ld a) rfl (by decide) la' ?_⟩) (fun z => ⟨C.1, C.rd 825 1 (ld b) rfl (by decide) lb' ?_⟩)
  · intro h1 e1
    rw [jr_cl (by omega)] at e1
    refine fin h1 (C.near e1) (by rw [e1]; exact fun x hx => ce_sA hx) fun n hn => ?_
    rw [e1, gA_sA, Nat.max_eq_left z, Nat.min_eq_right z]
    by_cases w : n = ld a
    · rw [if_pos ⟨rfl, w⟩, w, va_up_self]
    · rw [if_neg (fun y => w y.2), va_up_ne _ _ w]; exact U n hn
  · intro h1 e1
    rw [jr_cl (by omega)] at e1
    refine fin h1 (C.near e1) (by rw [e1]; exact fun x hx => ce_sA hx) fun n hn => ?_
    rw [e1, gA_sA, Nat.max_eq_right (by omega), Nat.min_eq_left (by omega)]
    by_cases w : n = ld b
    · rw [if_pos ⟨rfl, w⟩, w, va_up_self]
    · rw [if_neg (fun y => w y.2), va_up_ne _ _ w]; exact U n hn
theorem r_nameNode {post : Int32 → HS → Prop} {s n : Nat} (hs : s < 16) (hn : n < 1000) (kk : post (nI (rnm s n)) h) : wp_Mod_nameNode Z post h vm (nI s) (nI n) := by
  unfold wp_Mod_nameNode
  unfold rnm at kk
  rw [show (3520 : Int32) = nI 3520 from rfl, show (1000 : Int32) = nI 1000 from rfl, show (0 : Int32) = nI 0 from rfl, pk_mul, nI_add, nI_add, nI_add, nI_add]
  refine pk_lt n 900 (fun z => ?_) (fun z => ?_)
  · rw [if_neg (by omega)] at kk; exact kk
  · rw [if_pos z] at kk; exact kk
theorem rnm_lt {s n : Nat} (hs : s < 16) (hn : n < 1000) : rnm s n < 19520 := by
  unfold rnm; split <;> omega
/-! wires of the sheet t -/
def wpr (d : DS) (t v w x y : Nat) : Prop := (ali d v ∧ ali d w ∧ wSh d v = bas d t ∧ wSh d w = bas d t ∧ (hend d v w ∨ ∃ k, k < nJ d ∧ jSh d k = bas d t ∧ thr d v (jX d k) (jY d k) ∧ thr d w (jX d k) (jY d k))) ∧ x = 16 * v + t ∧ y = 16 * w + t
theorem r_joinWires {post : HS → Prop} {t : Nat} (hd : WF d) (X : XR vm R B h d S) (ht : t < nS d) (kk : ∀ h', XR vm R B h' d (acc S (fun v x y => ∃ w, w < v ∧ wpr d t v w x y) (nW d)) → smj R h h' → post h') : wp_Mod_joinWires Z post h vm (nI t) (nI (bas d t)) := by
  have hS := hd.1.1
  have hW := hd.1.2.1
  have hJ := hd.1.2.2.1
  have bt := (hd.2.1 t ht).1
  refine lp_inv (fun q => ∃ v, v ≤ nW d ∧ q.1 = nI t ∧ q.2.1 = nI (bas d t) ∧ q.2.2.1 = nI v ∧ XR vm R B q.2.2.2 d (acc S (fun v x y => ∃ w, w < v ∧ wpr d t v w x y) v) ∧ smj R h q.2.2.2) (fun q => nW d - q.2.2.1.toNatClampNeg) ?_ _ ⟨0, by omega, rfl, rfl, rfl, X.eq (acc_0 _ _), sm_rf⟩
  rintro ⟨x1, x2, x3, h1⟩ K ⟨v, hv, e1, e2, e3, X1, s1⟩ hK
  dsimp only at e1 e2 e3 X1 s1
  subst e1 e2 e3
  unfold wb_Mod_joinWires_2
  dsimp only
  refine ⟨X1.1.1, ?_⟩
  rw [X1.2.1.1.2.1]
  refine pk_le (nW d) v (fun z => kk h1 (X1.eq (by rw [show v = nW d from by omega])) s1) (fun z => ?_)
  refine lp_inv (fun q => ∃ w, w ≤ v ∧ q.1 = nI t ∧ q.2.1 = nI (bas d t) ∧ q.2.2.1 = nI v ∧ q.2.2.2.1 = nI w ∧ XR vm R B q.2.2.2.2 d (acc (acc S (fun v x y => ∃ w, w < v ∧ wpr d t v w x y) v) (fun w x y => wpr d t v w x y) w) ∧ smj R h q.2.2.2.2) (fun q => v - q.2.2.2.1.toNatClampNeg) ?_ _ ⟨0, by omega, rfl, rfl, rfl, rfl, X1.eq (acc_0 _ _), s1⟩
  rintro ⟨y1, y2, y3, y4, h2⟩ K2 ⟨w, hw, f1, f2, f3, f4, X2, s2⟩ hK2
  dsimp only at f1 f2 f3 f4 X2 s2
  subst f1 f2 f3 f4
  have next : ∀ h3, XR vm R B h3 d (acc (acc S (fun v x y => ∃ w, w < v ∧ wpr d t v w x y) v) (fun w x y => wpr d t v w x y) (w + 1)) → smj R h h3 → w < v → wj_Mod_joinWires_192 Z post K K2 vm (nI t) (nI (bas d t)) (nI v) (nI w) h3 := by
    intro h3 X3 s3 hw
    rintro y rfl
    refine hK2 _ ⟨w + 1, by omega, rfl, rfl, rfl, nI_1 w, X3, s3⟩ ?_
    dsimp only
    rw [nI_1, jr_cl (by omega), jr_cl (by omega)]; omega
  -- joined or not
  have yes : w < v → (ali d v ∧ ali d w ∧ wSh d v = bas d t ∧ wSh d w = bas d t ∧ (hend d v w ∨ ∃ k, k < nJ d ∧ jSh d k = bas d t ∧ thr d v (jX d k) (jY d k) ∧ thr d w (jX d k) (jY d k))) → wj_Mod_joinWires_170 Z post K K2 vm (nI t) (nI (bas d t)) (nI v) (nI w) (1 : Int32) h2 := by
    intro hw c
    refine ⟨fun e => absurd e (by decide), fun _ => ⟨X2.1.1, ?_⟩⟩
    rw [show (16 : Int32) = nI 16 from rfl, pk_mul, pk_mul, nI_add, nI_add]
    refine X2.join (by omega) (by omega) fun h3 X3 s3 => next h3 (X3.eq ?_) (sm_tr s2 s3) hw
    exact acc_1 fun x y => ⟨fun p => p.2, fun p => ⟨c, p⟩⟩
  have no : w < v → ¬ (ali d v ∧ ali d w ∧ wSh d v = bas d t ∧ wSh d w = bas d t ∧ (hend d v w ∨ ∃ k, k < nJ d ∧ jSh d k = bas d t ∧ thr d v (jX d k) (jY d k) ∧ thr d w (jX d k) (jY d k))) → wj_Mod_joinWires_170 Z post K K2 vm (nI t) (nI (bas d t)) (nI v) (nI w) (0 : Int32) h2 := by
    intro hw c
    exact ⟨fun _ => next h2 (X2.eq (acc_n fun x y p => c p.1)) s2 hw, fun e => absurd rfl e⟩
  obtain ⟨C2, D2, -⟩ := id X2
  have cnt0 := D2.1.2.2.1
  -- the loop over junctions
  have jloop : ∀ bo jo : Int32, (bo = 0 ∧ jo = 0 ∧ (w < v → ¬ (ali d v ∧ ali d w ∧ wSh d v = bas d t ∧ wSh d w = bas d t ∧ (hend d v w ∨ ∃ k, k < nJ d ∧ jSh d k = bas d t ∧ thr d v (jX d k) (jY d k) ∧ thr d w (jX d k) (jY d k))))) ∨ (bo = 1 ∧ (ali d v ∧ ali d w ∧ wSh d v = bas d t ∧ wSh d w = bas d t) ∧ ((jo = 1 ∧ hend d v w) ∨ (jo = 0 ∧ ¬ hend d v w))) → w < v → wj_Mod_joinWires_65 Z post K K2 vm (nI t) (nI (bas d t)) (nI v) (nI w) bo jo h2 := by
    intro bo jo o hw
    have hv' : v < nW d := z
    have hw' : w < nW d := by omega
    refine lp_inv (fun q => ∃ k jo', k ≤ nJ d ∧ q = (nI t, nI (bas d t), nI v, nI w, bo, jo', nI k, h2) ∧ ((bo = 0 ∧ jo' = 0 ∧ ¬ (ali d v ∧ ali d w ∧ wSh d v = bas d t ∧ wSh d w = bas d t ∧ (hend d v w ∨ ∃ k, k < nJ d ∧ jSh d k = bas d t ∧ thr d v (jX d k) (jY d k) ∧ thr d w (jX d k) (jY d k)))) ∨ (bo = 1 ∧ (ali d v ∧ ali d w ∧ wSh d v = bas d t ∧ wSh d w = bas d t) ∧ ((jo' = 1 ∧ (hend d v w ∨ ∃ k, k < nJ d ∧ jSh d k = bas d t ∧ thr d v (jX d k) (jY d k) ∧ thr d w (jX d k) (jY d k))) ∨ (jo' = 0 ∧ ¬ hend d v w ∧ ∀ i, i < k → ¬ (jSh d i = bas d t ∧ thr d v (jX d i) (jY d i) ∧ thr d w (jX d i) (jY d i))))))) (fun q => nJ d - q.2.2.2.2.2.2.1.toNatClampNeg) ?_ _ ⟨0, jo, by omega, rfl, ?_⟩
    rotate_left
    · rcases o with ⟨o1, o2, o3⟩ | ⟨o1, o2, o3⟩
      · exact Or.inl ⟨o1, o2, o3 hw⟩
      · refine Or.inr ⟨o1, o2, ?_⟩
        rcases o3 with ⟨y1, y2⟩ | ⟨y1, y2⟩
        · exact Or.inl ⟨y1, Or.inl y2⟩
        · exact Or.inr ⟨y1, y2, fun i hi => absurd hi (Nat.not_lt_zero _)⟩
    rintro q K3 ⟨k, jo', hk, rfl, o⟩ hK3
    have stop : (k = nJ d ∨ bo = 0 ∨ ¬ jo' = 0) → wj_Mod_joinWires_170 Z post K K2 vm (nI t) (nI (bas d t)) (nI v) (nI w) jo' h2 := by
      intro st
      rcases o with ⟨o1, o2, o3⟩ | ⟨o1, o2, ⟨y1, y2⟩ | ⟨y1, y2, y3⟩⟩
      · rw [o2]; exact no hw o3
      · rw [y1]; exact yes hw ⟨o2.1, o2.2.1, o2.2.2.1, o2.2.2.2, y2⟩
      · rw [y1]
        refine no hw fun c => ?_
        rcases c.2.2.2.2 with u | ⟨i, i1, i2⟩
        · exact y2 u
        · rcases st with st | st | st
          · exact y3 i (by omega) i2
          · rw [o1] at st; exact absurd st (by decide)
          · exact st y1
    unfold wb_Mod_joinWires_70
    dsimp only
    refine ⟨C2.1, ?_⟩
    rw [cnt0]
    refine pk_le (nJ d) k (fun y => stop (Or.inl (by omega))) (fun y => ⟨fun e => stop (Or.inr (Or.inl e)), fun e => ⟨fun f => stop (Or.inr (Or.inr f)), fun f => ⟨C2.1, C2.rd 809 1 k rfl (by decide) (by show k < 50; omega) ?_⟩⟩⟩)
    have o' : bo = 1 ∧ (ali d v ∧ ali d w ∧ wSh d v = bas d t ∧ wSh d w = bas d t) ∧ ¬ hend d v w ∧ ∀ i, i < k → ¬ (jSh d i = bas d t ∧ thr d v (jX d i) (jY d i) ∧ thr d w (jX d i) (jY d i)) := by
      rcases o with ⟨o1, o2, o3⟩ | ⟨o1, o2, ⟨y1, y2⟩ | ⟨y1, y2, y3⟩⟩
      · exact absurd o1 e
      · rw [y1] at f; exact absurd f (by decide)
      · exact ⟨o1, o2, y2, y3⟩
    obtain ⟨ob, oa, oh, on⟩ := o'
    obtain ⟨j1, j2, j3⟩ := D2.2.2.2.1 k y
    have js := (hd.2.2.2.1 k y).1
    have go : ∀ r : Int32, ((r = 1 ∧ (jSh d k = bas d t ∧ thr d v (jX d k) (jY d k) ∧ thr d w (jX d k) (jY d k))) ∨ (r = 0 ∧ ¬ (jSh d k = bas d t ∧ thr d v (jX d k) (jY d k) ∧ thr d w (jX d k) (jY d k)))) → wj_Mod_joinWires_162 Z post K K2 K3 vm (nI t) (nI (bas d t)) (nI v) (nI w) bo (nI k) r h2 := by
      intro r o
      rintro u rfl
      refine hK3 _ ⟨k + 1, r, by omega, by rw [nI_1], Or.inr ⟨ob, oa, ?_⟩⟩ ?_
      · rcases o with ⟨o1, o2⟩ | ⟨o1, o2⟩
        · exact Or.inl ⟨o1, Or.inr ⟨k, y, o2⟩⟩
        · refine Or.inr ⟨o1, oh, fun i hi => ?_⟩
          by_cases x : i = k
          · subst x; exact o2
          · exact on i (by omega)
      · dsimp only
        rw [nI_1, jr_cl (by omega), jr_cl (by omega)]; omega
    rw [jr_cl (by omega), j1, nI_eq (by omega) (by omega)]
    refine ⟨fun g => go 0 (Or.inr ⟨rfl, fun q => g q.1⟩), fun g => ?_⟩
    rw [show (2 : Int32) = nI 2 from rfl, pk_mul, show (1 : Int32) = nI 1 from rfl, nI_add, jr_cl (by omega), jr_cl (by omega)]
    refine ⟨C2.1, C2.rd 810 3 (2 * k) rfl (by decide) (by show 2 * k < 100; omega) ⟨C2.1, C2.rd 810 3 (2 * k + 1) rfl (by decide) (by show 2 * k + 1 < 100; omega) ⟨C2.1, ?_⟩⟩⟩
    rw [j2, j3]
    refine r_goesThrough hd C2 D2 hv' (fun th => ⟨fun q => absurd q (by decide), fun _ => ⟨C2.1, C2.rd 810 3 (2 * k) rfl (by decide) (by show 2 * k < 100; omega) ⟨C2.1, C2.rd 810 3 (2 * k + 1) rfl (by decide) (by show 2 * k + 1 < 100; omega) ⟨C2.1, ?_⟩⟩⟩⟩) (fun th => ⟨fun _ => go 0 (Or.inr ⟨rfl, fun q => th q.2.1⟩), fun q => absurd rfl q⟩)
    rw [j2, j3]
    exact r_goesThrough hd C2 D2 hw' (fun th2 => ⟨fun q => absurd q (by decide), fun _ => go 1 (Or.inl ⟨rfl, g, th, th2⟩)⟩) (fun th2 => ⟨fun _ => go 0 (Or.inr ⟨rfl, fun q => th2 q.2.2⟩), fun q => absurd rfl q⟩)
  unfold wb_Mod_joinWires_13
  dsimp only
  refine pk_le v w (fun y => ?_) (fun y => ⟨C2.1, ?_⟩)
  · rintro y rfl
    refine hK _ ⟨v + 1, by omega, rfl, rfl, nI_1 v, X2.eq ?_, s2⟩ ?_
    · rw [acc_s, show w = v from by omega]; rfl
    · dsimp only
      rw [nI_1, jr_cl (by omega), jr_cl (by omega)]; omega
  · have hv' : v < nW d := z
    have hw' : w < nW d := by omega
    have off : ¬ ((wSh d v = bas d t ∧ wDr d v = 0) ∧ (wSh d w = bas d t ∧ wDr d w = 0)) → wj_Mod_joinWires_42 Z post K K2 vm (nI t) (nI (bas d t)) (nI v) (nI w) h2 := by
      intro n
      refine ⟨fun _ => jloop 0 0 (Or.inl ⟨rfl, rfl, fun _ c => n ⟨⟨c.2.2.1, c.1.2⟩, c.2.2.2.1, c.2.1.2⟩⟩) y, fun e => absurd rfl e⟩
    refine r_isOn hd C2 D2 hv' (by omega) (fun on1 => ⟨fun q => absurd q (by decide), fun _ => ⟨C2.1, r_isOn hd C2 D2 hw' (by omega) (fun on2 => ⟨fun q => absurd q (by decide), fun _ => ⟨fun q => absurd q (by decide), fun _ => ⟨C2.1, ?_⟩⟩⟩) (fun n => ⟨fun _ => off fun q => n q.2, fun q => absurd rfl q⟩)⟩⟩) (fun n => ⟨fun _ => off fun q => n q.1, fun q => absurd rfl q⟩)
    have al : ali d v ∧ ali d w ∧ wSh d v = bas d t ∧ wSh d w = bas d t := ⟨⟨hv', on1.2⟩, ⟨hw', on2.2⟩, on1.1, on2.1⟩
    exact r_haveEnd hd C2 D2 hv' hw' (fun e => ⟨fun q => absurd q (by decide), fun _ => jloop 1 1 (Or.inr ⟨rfl, al, Or.inl ⟨rfl, e⟩⟩) y⟩) (fun e => ⟨fun _ => jloop 1 0 (Or.inr ⟨rfl, al, Or.inr ⟨rfl, e⟩⟩) y, fun q => absurd rfl q⟩)
end RJN
