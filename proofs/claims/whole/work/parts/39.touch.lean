/-! TOUCHING: which pairs each method joins -/
theorem cst {h : HS} {x k : Nat} (t : gT h x = k) : ∀ z, some x = some z → gT h z = k := fun z e => by obtain rfl := Option.some.inj e; exact t
def acc (S : Nat → Nat → Prop) (P : Nat → Nat → Nat → Prop) (i : Nat) : Nat → Nat → Prop := fun x y => S x y ∨ ∃ j, j < i ∧ P j x y
theorem acc_0 (S : Nat → Nat → Prop) (P : Nat → Nat → Nat → Prop) : acc S P 0 = S := by
  funext x y
  refine propext ⟨fun z => ?_, Or.inl⟩
  rcases z with z | ⟨j, hj, -⟩
  · exact z
  · exact absurd hj (Nat.not_lt_zero _)
theorem acc_s (S : Nat → Nat → Prop) (P : Nat → Nat → Nat → Prop) (i : Nat) : acc S P (i + 1) = fun x y => acc S P i x y ∨ P i x y := by
  funext x y
  refine propext ⟨fun z => ?_, fun z => ?_⟩
  · rcases z with z | ⟨j, hj, z⟩
    · exact Or.inl (Or.inl z)
    · by_cases e : j = i
      · subst e; exact Or.inr z
      · exact Or.inl (Or.inr ⟨j, by omega, z⟩)
  · rcases z with (z | ⟨j, hj, z⟩) | z
    · exact Or.inl z
    · exact Or.inr ⟨j, by omega, z⟩
    · exact Or.inr ⟨i, by omega, z⟩
theorem acc_n {S : Nat → Nat → Prop} {P : Nat → Nat → Nat → Prop} {i : Nat} (h : ∀ x y, ¬ P i x y) : acc S P (i + 1) = acc S P i := by
  rw [acc_s]
  funext x y
  exact propext ⟨fun z => by rcases z with z | z; exact z; exact absurd z (h x y), Or.inl⟩
theorem acc_1 {S : Nat → Nat → Prop} {P : Nat → Nat → Nat → Prop} {i a b : Nat} (h : ∀ x y, P i x y ↔ (x = a ∧ y = b)) : acc S P (i + 1) = fun x y => acc S P i x y ∨ (x = a ∧ y = b) := by
  rw [acc_s]
  funext x y
  rw [h x y]
def tl : Nat → Nat := fun r => if r = 0 then 220 else 0
def TJ (vx : Nat) (A : Nat → Nat → Nat) (B : Nat → Nat × Nat) (h : HS) (lt : Nat → Nat) : Prop := gR h 9 vx = some (A 11 0) ∧ (B vx = (0, 0) ∧ B (A 11 0) = (11, 0) ∧ B (A 11 1) = (11, 1) ∧ B (A 12 0) = (12, 0)) ∧ JF h (A 11 0) (A 11 1) (A 12) tl 1 lt
/-- the document, and what touches: the pairs S -/
def XT (Z : Nat → Nat) (vx : Nat) (A : Nat → Nat → Nat) (B : Nat → Nat × Nat) (h : HS) (d : DS) (S : Nat → Nat → Prop) : Prop := CD Z vx A B h d ∧ ∃ lt, TJ vx A B h lt ∧ LD lt S
abbrev sm12 (B : Nat → Nat × Nat) : HS → HS → Prop := sm (fun a => (B a).1 ≠ 12)
section TCH
variable {Z : Nat → Nat} {vx : Nat} {A : Nat → Nat → Nat} {B : Nat → Nat × Nat} {h : HS} {d : DS} {S : Nat → Nat → Prop}
theorem vl_tl {n : Nat} (h : n < 220) : vl tl 1 n := ⟨by omega, by rw [show n / 2048 = 0 from by omega]; show n % 2048 < 220; omega⟩
theorem TJ.frame {h' : HS} {lt : Nat → Nat} (T : TJ vx A B h lt) (c : ∀ a, ((B a).1 = 0 ∨ (B a).1 = 11 ∨ (B a).1 = 12) → ce h h' a) : TJ vx A B h' lt := by
  obtain ⟨t1, ⟨t0, t2, t3, t4⟩, t5⟩ := T
  refine ⟨by rw [(c vx (Or.inl (by rw [t0]))).R]; exact t1, ⟨t0, t2, t3, t4⟩, t5.frame fun a ha => ?_⟩
  rcases ha with rfl | rfl | ⟨r, hr, rfl⟩
  · exact c _ (Or.inr (Or.inl (by rw [t2])))
  · exact c _ (Or.inr (Or.inl (by rw [t3])))
  · have : r = 0 := by omega
    subst this
    exact c _ (Or.inr (Or.inr (by rw [t4])))
theorem XT.join {post : HS → Prop} (X : XT Z vx A B h d S) {a b : Nat} (ha : a < 220) (hb : b < 220) (kk : ∀ h', XT Z vx A B h' d (fun x y => S x y ∨ (x = a ∧ y = b)) → sm12 B h h' → post h') : wp_Joins_join Z post h (A 11 0) (nI a) (nI b) := by
  obtain ⟨C, lt, T, L⟩ := X
  refine sp_join T.2.2 (vl_tl ha) (vl_tl hb) fun h' J s => ?_
  have s' : sm12 B h h' := sm_of s fun a ha r hr e => by
    have : r = 0 := by omega
    subst this
    rw [e, T.2.1.2.2.2] at ha; exact ha rfl
  refine kk h' ⟨C.frame fun a ha => s' a (by intro z; omega), _, ⟨?_, T.2.1, J⟩, L.join a b⟩ s'
  rw [(s' vx (by show (B vx).1 ≠ 12; rw [T.2.1.1]; decide)).R]; exact T.1
theorem XT.up (X : XT Z vx A B h d S) : gR h 9 vx = some (A 11 0) ∧ gT h (A 11 0) = 18 := by
  obtain ⟨C, lt, T, L⟩ := X
  exact ⟨T.1, T.2.2.1.1⟩
theorem XT.eq {T : Nat → Nat → Prop} (X : XT Z vx A B h d S) (e : T = S) : XT Z vx A B h d T := by rw [e]; exact X
theorem XT.mo {T : Nat → Nat → Prop} (X : XT Z vx A B h d S) (h1 : ∀ x y, S x y → EG T x y) (h2 : ∀ x y, T x y → EG S x y) : XT Z vx A B h d T := by
  obtain ⟨C, lt, J, L⟩ := X
  exact ⟨C, lt, J, L.mo h1 h2⟩
theorem sp_thingOf {post : Int32 → HS → Prop} {a w : Nat} (ow : obW h d a w) (kk : post (nI (120 + w)) h) : wp_NJ_thingOf Z post h (some a) := by
  refine ⟨a, rfl, ow.1, ?_⟩
  rw [ow.2.2.1, show (120 : Int32) = nI 120 from rfl, nI_add]
  exact kk
/-! ends -/
def Pend (d : DS) (w i x y : Nat) : Prop := ali d i ∧ wSh d i = wSh d w ∧ hend d w i ∧ x = 120 + w ∧ y = 120 + i
theorem sp_joinEnds {post : HS → Prop} (hd : WF d) (X : XT Z vx A B h d S) {w : Nat} (hw : w < nW d) (kk : ∀ h', XT Z vx A B h' d (acc S (Pend d w) w) → sm12 B h h' → post h') : wp_NJ_joinEnds Z post h vx (some (A 4 w)) := by
  have hW := hd.1.2.1
  have hS := hd.1.1
  unfold wp_NJ_joinEnds
  refine lp_inv (fun q => ∃ i, q.1 = some (A 4 w) ∧ q.2.1 = nI i ∧ i ≤ w ∧ XT Z vx A B q.2.2 d (acc S (Pend d w) i) ∧ sm12 B h q.2.2) (fun q => w - q.2.1.toNatClampNeg) ?_ _ ⟨0, rfl, rfl, by omega, X.eq (acc_0 _ _), sm_rf⟩
  rintro ⟨x1, x2, h1⟩ K ⟨i, e1, e2, hi, X1, s1⟩ hK
  dsimp only at e1 e2 X1 s1
  subst e1 e2
  have C := X1.1
  have ow := C.W hw
  unfold wb_NJ_joinEnds_2
  dsimp only
  refine ⟨A 4 w, rfl, ow.1, ?_⟩
  rw [ow.2.2.1]
  have next : ∀ h2, XT Z vx A B h2 d (acc S (Pend d w) (i + 1)) → sm12 B h h2 → i < w → wj_NJ_joinEnds_56 Z post K vx (some (A 4 w)) (nI i) h2 := by
    intro h2 X2 s2 hi
    rintro y rfl
    refine hK _ ⟨i + 1, rfl, nI_1 i, by omega, X2, s2⟩ ?_
    dsimp only
    rw [nI_1, jr_cl (by omega), jr_cl (by omega)]; omega
  refine pk_le w i (fun z => kk h1 (X1.eq (by rw [show i = w from by omega])) s1) (fun z => ⟨C.x, A 1 1, C.p (by omega), C.lT (by omega), sp_get C.wi (i := i) (by omega) ⟨cst (C.W (i := i) (by omega)).1, A 4 w, rfl, ow.1, A 4 i, rfl, (C.W (i := i) (by omega)).1, ?_⟩⟩)
  have oi := C.W (i := i) (by omega)
  have wi := hd.2.2.1 i (by omega)
  have ww := hd.2.2.1 w hw
  rw [ow.2.1]
  refine sp_isOn oi.1 (fun c1 => ⟨fun z => absurd z (by decide), fun _ => ⟨A 4 w, rfl, ow.1, sp_common ow oi (fun c2 => ⟨fun z => absurd z (by decide), fun _ => ⟨C.x, sp_thingOf ow (sp_thingOf oi ⟨A 11 0, X1.up.1, X1.up.2, X1.join (by omega) (by omega) fun h2 X2 s2 => next h2 (X2.eq ?_) (sm_tr s1 s2) z⟩)⟩⟩) (fun c2 => ⟨fun _ => next h1 (X1.eq (acc_n fun x y p => c2 p.2.2.1)) s1 z, fun y => absurd rfl y⟩)⟩⟩) (fun c1 => ⟨fun _ => next h1 (X1.eq (acc_n fun x y p => c1 ?_)) s1 z, fun y => absurd rfl y⟩)
  · rw [oi.2.2.2.2.2.2.2, oi.2.1] at c1
    refine acc_1 fun x y => ⟨fun p => p.2.2.2, fun p => ⟨⟨by omega, ?_⟩, (nI_eq (by omega) (by omega)).mp c1.2, c2, p⟩⟩
    have := c1.1
    rw [show (0 : Int32) = nI 0 from rfl, nI_eq (by omega) (by omega)] at this
    exact this
  · rw [oi.2.2.2.2.2.2.2, oi.2.1, p.1.2, p.2.1]; exact ⟨rfl, rfl⟩
/-! junctions -/
/-- a place: the sheet s, x, y; the wire i goes through it -/
def thru (d : DS) (s : Nat) (x y : Int64) (i : Nat) : Prop := ali d i ∧ wSh d i = s ∧ thr d i x y
def Pjun (d : DS) (s : Nat) (u v : Int64) (i x y : Nat) : Prop := thru d s u v i ∧ y = 120 + i ∧ ∃ f, thru d s u v f ∧ (∀ j, j < f → ¬ thru d s u v j) ∧ x = 120 + f
def plc (h : HS) (b s : Nat) (x y : Int64) : Prop := gT h b = 22 ∧ gI h 600 b = nI s ∧ gJ h 601 b = x ∧ gJ h 602 b = y
theorem plc.frame {h' : HS} {b s : Nat} {x y : Int64} (p : plc h b s x y) (c : ce h h' b) : plc h' b s x y := by
  obtain ⟨p1, p2, p3, p4⟩ := p
  exact ⟨by rw [c.T]; exact p1, by rw [c.I]; exact p2, by rw [c.J]; exact p3, by rw [c.J]; exact p4⟩
theorem CD.pJ (C : CD Z vx A B h d) {k : Nat} (hk : k < nJ d) : plc h (A 5 k) (jSh d k) (jX d k) (jY d k) := C.J hk
/-- a spot's address -/
def sAd (A : Nat → Nat → Nat) (a : Nat) : Nat := if a < 60 then A 7 a else A 6 (a - 60)
theorem CD.pS (C : CD Z vx A B h d) (hd : WF d) {a : Nat} (ha : isp d a) : plc h (sAd A a) (sSh d a) (sX d a) (sY d a) ∧ gI h 604 (sAd A a) = nI a ∧ (B (sAd A a)).1 ≤ 10 := by
  have h5 := hd.1.2.2.2.2.1
  unfold sAd sSh sX sY
  by_cases z : a < 60
  · simp only [z, if_true]
    have hp : a < nP d := by rcases ha with w | w <;> omega
    have o := C.P hp
    exact ⟨⟨o.1, o.2.1, o.2.2.1, o.2.2.2.1⟩, o.2.2.2.2.2.1, by rw [C.tag (r := 7) (by omega) (by omega) hp]; show 7 ≤ 10; omega⟩
  · simp only [z, if_false]
    have hl : a - 60 < nL d := by rcases ha with w | w <;> omega
    have o := C.L hl
    exact ⟨⟨o.1, o.2.1, o.2.2.1, o.2.2.2.1⟩, by rw [o.2.2.2.2.2, show 60 + (a - 60) = a from by omega], by rw [C.tag (r := 6) (by omega) (by omega) hl]; show 6 ≤ 10; omega⟩
theorem sp_thru {post : Int32 → HS → Prop} (hd : WF d) (C : CD Z vx A B h d) {i b s : Nat} {x y : Int64} (hi : i < nW d) (hs : s < 2 ^ 31) (p : plc h b s x y) (h1 : thru d s x y i → post 1 h) (h0 : ¬ thru d s x y i → post 0 h) : wp_Wire_goesThrough Z post h (A 4 i) (some b) := by
  have wi := hd.2.2.1 i hi
  have := hd.1.1
  exact sp_through (C.W hi) (by omega) hs wi.2.2 p (fun z => h1 ⟨⟨hi, z.1⟩, z.2⟩) (fun z => h0 fun w => z ⟨w.1.2, w.2⟩)
theorem sp_joinJunction {post : HS → Prop} (hd : WF d) (X : XT Z vx A B h d S) {b s : Nat} {u v : Int64} (hs : s < 2 ^ 31) (p : plc h b s u v) (hb : (B b).1 ≤ 10) (kk : ∀ h', XT Z vx A B h' d (acc S (Pjun d s u v) (nW d)) → sm12 B h h' → post h') : wp_NJ_joinJunction Z post h vx (some b) := by
  have hW := hd.1.2.1
  unfold wp_NJ_joinJunction
  refine lp_inv (fun q => ∃ i, q.1 = some b ∧ q.2.2.1 = nI i ∧ i ≤ nW d ∧ XT Z vx A B q.2.2.2 d (acc S (Pjun d s u v) i) ∧ sm12 B h q.2.2.2 ∧ ((q.2.1 = -1 ∧ ∀ j, j < i → ¬ thru d s u v j) ∨ ∃ f, f < i ∧ q.2.1 = nI (120 + f) ∧ thru d s u v f ∧ ∀ j, j < f → ¬ thru d s u v j)) (fun q => nW d - q.2.2.1.toNatClampNeg) ?_ _ ⟨0, rfl, rfl, by omega, X.eq (acc_0 _ _), sm_rf, Or.inl ⟨rfl, fun j hj => absurd hj (Nat.not_lt_zero _)⟩⟩
  rintro ⟨x1, x2, x3, h1⟩ K ⟨i, e1, e3, hi, X1, s1, F⟩ hK
  dsimp only at e1 e3 X1 s1 F
  subst e1 e3
  have C := X1.1
  have p1 := p.frame (s1 b (by intro z; omega))
  unfold wb_NJ_joinJunction_4
  dsimp only
  refine ⟨C.x, A 1 1, C.p (by omega), C.lT (by omega), sp_size C.wi (pk_le (nW d) i (fun z => kk h1 (X1.eq (by rw [show i = nW d from by omega])) s1) (fun z => ⟨C.x, A 1 1, C.p (by omega), C.lT (by omega), sp_get C.wi z ⟨cst (C.W z).1, A 4 i, rfl, (C.W z).1, sp_thru hd C z hs p1 (fun c => ⟨fun y => absurd y (by decide), fun _ => ?_⟩) (fun c => ⟨fun _ => ?_, fun y => absurd rfl y⟩)⟩⟩))⟩
  · have put : ∀ f, f ≤ i → thru d s u v f → (∀ j, j < f → ¬ thru d s u v j) → wj_NJ_joinJunction_48 Z post K vx (some b) (nI (120 + f)) (nI i) (some (A 4 i)) h1 := by
      intro f hf t1 t2
      refine ⟨C.x, sp_thingOf (C.W z) ⟨A 11 0, X1.up.1, X1.up.2, X1.join (by omega) (by omega) fun h2 X2 s2 => ?_⟩⟩
      rintro y rfl
      refine hK _ ⟨i + 1, rfl, nI_1 i, by omega, X2.eq (acc_1 fun x y => ⟨fun q => ⟨?_, q.2.1⟩, fun q => ⟨c, q.2, f, t1, t2, q.1⟩⟩), sm_tr s1 s2, Or.inr ⟨f, by omega, rfl, t1, t2⟩⟩ ?_
      · obtain ⟨-, -, g, g1, g2, g3⟩ := q
        have : f = g := by
          rcases Nat.lt_trichotomy f g with w | w | w
          · exact absurd t1 (g2 f w)
          · exact w
          · exact absurd g1 (t2 g w)
        rw [this]; exact g3
      · dsimp only
        rw [nI_1, jr_cl (by omega), jr_cl (by omega)]; omega
    rcases F with ⟨rfl, F⟩ | ⟨f, f1, rfl, f2, f3⟩
    · exact ⟨fun y => absurd rfl y, fun _ => sp_thingOf (C.W z) (put i (Nat.le_refl _) c F)⟩
    · exact ⟨fun _ => put f (by omega) f2 f3, fun y => absurd y (by
        intro w
        have : (nI (120 + f)).toInt = (-1 : Int32).toInt := by rw [w]
        rw [nI_toInt (by omega)] at this
        have h9 : (-1 : Int32).toInt = -1 := by decide
        omega)⟩
  · rintro y rfl
    refine hK _ ⟨i + 1, rfl, nI_1 i, by omega, X1.eq (acc_n fun x y q => c q.1), s1, ?_⟩ ?_
    · rcases F with ⟨F1, F⟩ | ⟨f, f1, f2⟩
      · exact Or.inl ⟨F1, fun j hj => by
          by_cases w : j = i
          · subst w; exact c
          · exact F j (by omega)⟩
      · exact Or.inr ⟨f, by omega, f2⟩
    · dsimp only
      rw [nI_1, jr_cl (by omega), jr_cl (by omega)]; omega
end TCH
