theorem lL.congr {Z : Nat → Nat} {h : HS} {l e n : Nat} {f g : Nat → Nat} (L : lL Z h l e n f) (c : ∀ i, i < n → f i = g i) : lL Z h l e n g :=
  ⟨L.1, L.2.1, L.2.2.1, L.2.2.2.1, fun i hi => by rw [← c i hi]; exact L.2.2.2.2 i hi⟩
/-- the list k of n spots, things from off on -/
def slK (d : DS) (k n off : Nat) : Prop := (k = 3 ∧ n = nL d ∧ off = 60) ∨ (k = 5 ∧ n = nP d ∧ off = 0)
def Pss (d : DS) (a off i x y : Nat) : Prop := (sSh d (off + i) = sSh d a ∧ sX d (off + i) = sX d a ∧ sY d (off + i) = sY d a) ∧ x = a ∧ y = off + i
def Psw (d : DS) (a i x y : Nat) : Prop := thru d (sSh d a) (sX d a) (sY d a) i ∧ x = 120 + i ∧ y = a
def PS (d : DS) (a x y : Nat) : Prop := (∃ i, i < nW d ∧ Psw d a i x y) ∨ (∃ i, i < nL d ∧ Pss d a 60 i x y) ∨ (∃ i, i < nP d ∧ Pss d a 0 i x y)
def Pws (d : DS) (w off i x y : Nat) : Prop := thru d (sSh d (off + i)) (sX d (off + i)) (sY d (off + i)) w ∧ x = 120 + w ∧ y = off + i
def Pju (d : DS) (k x y : Nat) : Prop := ∃ i, i < nW d ∧ Pjun d (jSh d k) (jX d k) (jY d k) i x y
def Pjt (d : DS) (w k x y : Nat) : Prop := thru d (jSh d k) (jX d k) (jY d k) w ∧ Pju d k x y
section TCI
variable {Z : Nat → Nat} {vx : Nat} {A : Nat → Nat → Nat} {B : Nat → Nat × Nat} {h : HS} {d : DS} {S : Nat → Nat → Prop}
theorem sSh_lt (hd : WF d) {a : Nat} (ha : isp d a) : sSh d a < nS d := by
  have h5 := hd.1.2.2.2.2.1
  unfold sSh
  split
  · exact (hd.2.2.2.2.2.1 a (by rcases ha with w | w <;> omega)).1
  · exact (hd.2.2.2.2.1 (a - 60) (by rcases ha with w | w <;> omega)).1
theorem CD.sl (C : CD Z vx A B h d) (hd : WF d) {k n off : Nat} (hk : slK d k n off) : k < 8 ∧ n ≤ 60 ∧ lL Z h (A 1 k) (A 2 k) n (fun i => sAd A (off + i)) ∧ ∀ i, i < n → isp d (off + i) := by
  have h5 := hd.1.2.2.2.2.1
  have h4 := hd.1.2.2.2.1
  rcases hk with ⟨rfl, rfl, rfl⟩ | ⟨rfl, rfl, rfl⟩
  · refine ⟨by omega, h4, C.la.congr fun i hi => ?_, fun i hi => Or.inr ⟨by omega, by omega⟩⟩
    unfold sAd; rw [if_neg (by omega), show 60 + i - 60 = i from by omega]
  · refine ⟨by omega, h5, C.pi.congr fun i hi => ?_, fun i hi => Or.inl (by omega)⟩
    unfold sAd; rw [if_pos (by omega), Nat.zero_add]
theorem sp_joinSamePlace {post : HS → Prop} (hd : WF d) (X : XT Z vx A B h d S) {a k n off : Nat} (ha : isp d a) (hk : slK d k n off) (kk : ∀ h', XT Z vx A B h' d (acc S (Pss d a off) n) → sm12 B h h' → post h') : wp_NJ_joinSamePlace Z post h vx (some (sAd A a)) (some (A 1 k)) := by
  have hS := hd.1.1
  have a120 := isp_lt hd ha
  unfold wp_NJ_joinSamePlace
  refine lp_inv (fun q => ∃ i, q.1 = some (sAd A a) ∧ q.2.1 = some (A 1 k) ∧ q.2.2.1 = nI i ∧ i ≤ n ∧ XT Z vx A B q.2.2.2 d (acc S (Pss d a off) i) ∧ sm12 B h q.2.2.2) (fun q => n - q.2.2.1.toNatClampNeg) ?_ _ ⟨0, rfl, rfl, rfl, by omega, X.eq (acc_0 _ _), sm_rf⟩
  rintro ⟨x1, x2, x3, h1⟩ K ⟨i, e1, e2, e3, hi, X1, s1⟩ hK
  dsimp only at e1 e2 e3 X1 s1
  subst e1 e2 e3
  have C := X1.1
  obtain ⟨k8, n60, Ln, Is⟩ := C.sl hd hk
  obtain ⟨⟨p1, p2, p3, p4⟩, p5, p6⟩ := C.pS hd ha
  have next : ∀ h2, XT Z vx A B h2 d (acc S (Pss d a off) (i + 1)) → sm12 B h h2 → i < n → wj_NJ_joinSamePlace_56 Z post K vx (some (sAd A a)) (some (A 1 k)) (nI i) h2 := by
    intro h2 X2 s2 hi
    rintro y rfl
    refine hK _ ⟨i + 1, rfl, rfl, nI_1 i, by omega, X2, s2⟩ ?_
    dsimp only
    rw [nI_1, jr_cl (by omega), jr_cl (by omega)]; omega
  unfold wb_NJ_joinSamePlace_2
  dsimp only
  refine ⟨A 1 k, rfl, C.lT k8, sp_size Ln (pk_le n i (fun z => kk h1 (X1.eq (by rw [show i = n from by omega])) s1) (fun z => ⟨A 1 k, rfl, C.lT k8, sp_get Ln z ?_⟩))⟩
  obtain ⟨⟨q1, q2, q3, q4⟩, q5, q6⟩ := C.pS hd (Is i z)
  have i120 := isp_lt hd (Is i z)
  have sl1 := sSh_lt hd ha
  have sl2 := sSh_lt hd (Is i z)
  refine ⟨cst q1, sAd A a, rfl, p1, sAd A a, rfl, p1, sAd A a, rfl, p1, sAd A (off + i), rfl, q1, ?_⟩
  rw [p2, p3, p4]
  refine sp_isAt q1 (fun c => ⟨fun y => absurd y (by decide), fun _ => ⟨C.x, sAd A a, rfl, p1, sAd A (off + i), rfl, q1, A 11 0, X1.up.1, X1.up.2, ?_⟩⟩) (fun c => ⟨fun _ => next h1 (X1.eq (acc_n fun x y p => c ?_)) s1 z, fun y => absurd rfl y⟩)
  · rw [q2, q3, q4, nI_eq (by omega) (by omega)] at c
    rw [p5, q5]
    exact X1.join (by omega) (by omega) fun h2 X2 s2 => next h2 (X2.eq (acc_1 fun x y => ⟨fun p => p.2, fun p => ⟨c, p⟩⟩)) (sm_tr s1 s2) z
  · rw [q2, q3, q4, p.1.1, p.1.2.1, p.1.2.2]; exact ⟨rfl, rfl, rfl⟩
theorem sp_joinSpot {post : HS → Prop} (hd : WF d) (X : XT Z vx A B h d S) {a : Nat} (ha : isp d a) (kk : ∀ h', XT Z vx A B h' d (fun x y => S x y ∨ PS d a x y) → sm12 B h h' → post h') : wp_NJ_joinSpot Z post h vx (some (sAd A a)) := by
  have hS := hd.1.1
  have hW := hd.1.2.1
  have a120 := isp_lt hd ha
  have sl1 := sSh_lt hd ha
  unfold wp_NJ_joinSpot
  refine lp_inv (fun q => ∃ i, q.1 = some (sAd A a) ∧ q.2.1 = nI i ∧ i ≤ nW d ∧ XT Z vx A B q.2.2 d (acc S (Psw d a) i) ∧ sm12 B h q.2.2) (fun q => nW d - q.2.1.toNatClampNeg) ?_ _ ⟨0, rfl, rfl, by omega, X.eq (acc_0 _ _), sm_rf⟩
  rintro ⟨x1, x2, h1⟩ K ⟨i, e1, e2, hi, X1, s1⟩ hK
  dsimp only at e1 e2 X1 s1
  subst e1 e2
  have C := X1.1
  obtain ⟨p, p5, p6⟩ := C.pS hd ha
  have next : ∀ h2, XT Z vx A B h2 d (acc S (Psw d a) (i + 1)) → sm12 B h h2 → i < nW d → wj_NJ_joinSpot_56 Z post K vx (some (sAd A a)) (nI i) h2 := by
    intro h2 X2 s2 hi
    rintro y rfl
    refine hK _ ⟨i + 1, rfl, nI_1 i, by omega, X2, s2⟩ ?_
    dsimp only
    rw [nI_1, jr_cl (by omega), jr_cl (by omega)]; omega
  unfold wb_NJ_joinSpot_2
  dsimp only
  refine ⟨C.x, A 1 1, C.p (by omega), C.lT (by omega), sp_size C.wi (pk_le (nW d) i (fun z => ⟨C.x, C.x, ?_⟩) (fun z => ⟨C.x, A 1 1, C.p (by omega), C.lT (by omega), sp_get C.wi z ⟨cst (C.W z).1, A 4 i, rfl, (C.W z).1, sp_thru hd C z (by omega) p (fun c => ⟨fun y => absurd y (by decide), fun _ => ⟨C.x, C.x, A 1 1, C.p (by omega), C.lT (by omega), sp_get C.wi z ⟨cst (C.W z).1, sp_thingOf (C.W z) ⟨sAd A a, rfl, p.1, A 11 0, X1.up.1, X1.up.2, ?_⟩⟩⟩⟩) (fun c => ⟨fun _ => next h1 (X1.eq (acc_n fun x y q => c q.1)) s1 z, fun y => absurd rfl y⟩)⟩⟩))⟩
  · rw [C.p (k := 3) (by omega)]
    have X1 : XT Z vx A B h1 d (acc S (Psw d a) (nW d)) := X1.eq (by rw [show i = nW d from by omega])
    refine sp_joinSamePlace hd X1 ha (Or.inl ⟨rfl, rfl, rfl⟩) fun h2 X2 s2 => ⟨X2.1.x, X2.1.x, ?_⟩
    rw [X2.1.p (k := 5) (by omega)]
    refine sp_joinSamePlace hd X2 ha (Or.inr ⟨rfl, rfl, rfl⟩) fun h3 X3 s3 => kk h3 (X3.eq ?_) (sm_tr s1 (sm_tr s2 s3))
    funext x y
    simp only [acc, PS, or_assoc]
  · rw [p5]
    exact X1.join (by omega) (by omega) fun h2 X2 s2 => next h2 (X2.eq (acc_1 fun x y => ⟨fun p => p.2, fun p => ⟨c, p⟩⟩)) (sm_tr s1 s2) z
theorem sp_joinWithSpots {post : HS → Prop} (hd : WF d) (X : XT Z vx A B h d S) {w k n off : Nat} (hw : w < nW d) (hk : slK d k n off) (kk : ∀ h', XT Z vx A B h' d (acc S (Pws d w off) n) → sm12 B h h' → post h') : wp_NJ_joinWithSpots Z post h vx (some (A 4 w)) (some (A 1 k)) := by
  have hS := hd.1.1
  have hW := hd.1.2.1
  unfold wp_NJ_joinWithSpots
  refine lp_inv (fun q => ∃ i, q.1 = some (A 4 w) ∧ q.2.1 = some (A 1 k) ∧ q.2.2.1 = nI i ∧ i ≤ n ∧ XT Z vx A B q.2.2.2 d (acc S (Pws d w off) i) ∧ sm12 B h q.2.2.2) (fun q => n - q.2.2.1.toNatClampNeg) ?_ _ ⟨0, rfl, rfl, rfl, by omega, X.eq (acc_0 _ _), sm_rf⟩
  rintro ⟨x1, x2, x3, h1⟩ K ⟨i, e1, e2, e3, hi, X1, s1⟩ hK
  dsimp only at e1 e2 e3 X1 s1
  subst e1 e2 e3
  have C := X1.1
  obtain ⟨k8, n60, Ln, Is⟩ := C.sl hd hk
  have next : ∀ h2, XT Z vx A B h2 d (acc S (Pws d w off) (i + 1)) → sm12 B h h2 → i < n → wj_NJ_joinWithSpots_47 Z post K vx (some (A 4 w)) (some (A 1 k)) (nI i) h2 := by
    intro h2 X2 s2 hi
    rintro y rfl
    refine hK _ ⟨i + 1, rfl, rfl, nI_1 i, by omega, X2, s2⟩ ?_
    dsimp only
    rw [nI_1, jr_cl (by omega), jr_cl (by omega)]; omega
  unfold wb_NJ_joinWithSpots_2
  dsimp only
  refine ⟨A 1 k, rfl, C.lT k8, sp_size Ln (pk_le n i (fun z => kk h1 (X1.eq (by rw [show i = n from by omega])) s1) (fun z => ⟨A 1 k, rfl, C.lT k8, sp_get Ln z ?_⟩))⟩
  obtain ⟨q, q5, q6⟩ := C.pS hd (Is i z)
  have i120 := isp_lt hd (Is i z)
  have sl2 := sSh_lt hd (Is i z)
  refine ⟨cst q.1, A 4 w, rfl, (C.W hw).1, sp_thru hd C hw (by omega) q (fun c => ⟨fun y => absurd y (by decide), fun _ => ⟨C.x, sp_thingOf (C.W hw) ⟨A 1 k, rfl, C.lT k8, sp_get Ln z ⟨cst q.1, sAd A (off + i), rfl, q.1, A 11 0, X1.up.1, X1.up.2, ?_⟩⟩⟩⟩) (fun c => ⟨fun _ => next h1 (X1.eq (acc_n fun x y p => c p.1)) s1 z, fun y => absurd rfl y⟩)⟩
  rw [q5]
  exact X1.join (by omega) (by omega) fun h2 X2 s2 => next h2 (X2.eq (acc_1 fun x y => ⟨fun p => p.2, fun p => ⟨c, p⟩⟩)) (sm_tr s1 s2) z
theorem sp_joinThrough {post : HS → Prop} (hd : WF d) (X : XT Z vx A B h d S) {w : Nat} (hw : w < nW d) (kk : ∀ h', XT Z vx A B h' d (acc S (Pjt d w) (nJ d)) → sm12 B h h' → post h') : wp_NJ_joinThroughJunctions Z post h vx (some (A 4 w)) := by
  have hS := hd.1.1
  have hJ := hd.1.2.2.1
  unfold wp_NJ_joinThroughJunctions
  refine lp_inv (fun q => ∃ i, q.1 = some (A 4 w) ∧ q.2.1 = nI i ∧ i ≤ nJ d ∧ XT Z vx A B q.2.2 d (acc S (Pjt d w) i) ∧ sm12 B h q.2.2) (fun q => nJ d - q.2.1.toNatClampNeg) ?_ _ ⟨0, rfl, rfl, by omega, X.eq (acc_0 _ _), sm_rf⟩
  rintro ⟨x1, x2, h1⟩ K ⟨i, e1, e2, hi, X1, s1⟩ hK
  dsimp only at e1 e2 X1 s1
  subst e1 e2
  have C := X1.1
  have next : ∀ h2, XT Z vx A B h2 d (acc S (Pjt d w) (i + 1)) → sm12 B h h2 → i < nJ d → wj_NJ_joinThroughJunctions_46 Z post K vx (some (A 4 w)) (nI i) h2 := by
    intro h2 X2 s2 hi
    rintro y rfl
    refine hK _ ⟨i + 1, rfl, nI_1 i, by omega, X2, s2⟩ ?_
    dsimp only
    rw [nI_1, jr_cl (by omega), jr_cl (by omega)]; omega
  unfold wb_NJ_joinThroughJunctions_2
  dsimp only
  refine ⟨C.x, A 1 2, C.p (by omega), C.lT (by omega), sp_size C.ju (pk_le (nJ d) i (fun z => kk h1 (X1.eq (by rw [show i = nJ d from by omega])) s1) (fun z => ⟨C.x, A 1 2, C.p (by omega), C.lT (by omega), sp_get C.ju z ?_⟩))⟩
  have js := hd.2.2.2.1 i z
  have tg : (B (A 5 i)).1 ≤ 10 := by rw [C.tag (r := 5) (by omega) (by omega) z]; show 5 ≤ 10; omega
  refine ⟨cst (C.J z).1, A 4 w, rfl, (C.W hw).1, sp_thru hd C hw (by omega) (C.pJ z) (fun c => ⟨fun y => absurd y (by decide), fun _ => ⟨C.x, A 1 2, C.p (by omega), C.lT (by omega), sp_get C.ju z ⟨cst (C.J z).1, C.x, sp_joinJunction hd X1 (by omega) (C.pJ z) tg fun h2 X2 s2 => next h2 (X2.eq ?_) (sm_tr s1 s2) z⟩⟩⟩) (fun c => ⟨fun _ => next h1 (X1.eq (acc_n fun x y p => c p.1)) s1 z, fun y => absurd rfl y⟩)⟩
  rw [acc_s]
  funext x y
  refine propext ⟨fun q => ?_, fun q => ?_⟩
  · rcases q with q | q
    · exact Or.inl q
    · exact Or.inr q.2
  · rcases q with q | q
    · exact Or.inl q
    · exact Or.inr ⟨c, q⟩
/-! all anew -/
def Pen (d : DS) (w x y : Nat) : Prop := ali d w ∧ ∃ i, i < w ∧ Pend d w i x y
/-- all pairs that are joined anew -/
def TA (d : DS) : Nat → Nat → Prop := acc (acc (acc (acc (fun _ _ => False) (Pen d) (nW d)) (Pju d) (nJ d)) (fun l => PS d (60 + l)) (nL d)) (PS d) (nP d)
theorem sp_touchAnew {post : HS → Prop} (hd : WF d) (X : XT Z vx A B h d S) (kk : ∀ h', XT Z vx A B h' d (TA d) → sm12 B h h' → post h') : wp_NJ_touchAnew Z post h vx := by
  have hS := hd.1.1
  have hW := hd.1.2.1
  have hJ := hd.1.2.2.1
  have hL := hd.1.2.2.2.1
  have hP := hd.1.2.2.2.2.1
  have C := X.1
  refine ⟨C.x, A 11 0, X.up.1, X.up.2, ?_⟩
  obtain ⟨-, lt, T, L⟩ := X
  refine sp_scatter T.2.2 fun h1 J1 s => ?_
  have s1 : sm12 B h h1 := sm_of s fun a ha r hr e => by
    have : r = 0 := by omega
    subst this
    rw [e, T.2.1.2.2.2] at ha; exact ha rfl
  have X1 : XT Z vx A B h1 d (fun _ _ => False) := ⟨C.frame fun a ha => s1 a (by intro z; omega), _, ⟨by rw [(s1 vx (by show (B vx).1 ≠ 12; rw [T.2.1.1]; decide)).R]; exact T.1, T.2.1, J1⟩, LD.id⟩
  -- pins
  have pins : ∀ (S : Nat → Nat → Prop) (g : HS), XT Z vx A B g d S → sm12 B h g → acc S (PS d) (nP d) = TA d → lp (wb_NJ_touchAnew_128 Z post vx) ((0 : Int32), g) := by
    intro S g Xg sg eg
    refine lp_inv (fun q => ∃ i, q.1 = nI i ∧ i ≤ nP d ∧ XT Z vx A B q.2 d (acc S (PS d) i) ∧ sm12 B h q.2) (fun q => nP d - q.1.toNatClampNeg) ?_ _ ⟨0, rfl, by omega, Xg.eq (acc_0 _ _), sg⟩
    rintro ⟨x1, h1⟩ K ⟨i, e1, hi, X1, s1⟩ hK
    dsimp only at e1 X1 s1
    subst e1
    have C := X1.1
    have is : ∀ i, i < nP d → A 7 i = sAd A i := fun i hi => by unfold sAd; rw [if_pos (by omega)]
    unfold wb_NJ_touchAnew_128
    dsimp only
    refine ⟨C.x, A 1 5, C.p (by omega), C.lT (by omega), sp_size C.pi (pk_le (nP d) i (fun z => kk h1 (X1.eq (by rw [show i = nP d from by omega]; exact eg.symm)) s1) (fun z => ⟨C.x, A 1 5, C.p (by omega), C.lT (by omega), sp_get C.pi z ⟨cst (C.P z).1, C.x, ?_⟩⟩))⟩
    rw [is i z]
    refine sp_joinSpot hd X1 (Or.inl z) fun h2 X2 s2 => ?_
    rintro y rfl
    refine hK _ ⟨i + 1, nI_1 i, by omega, X2.eq (acc_s _ _ _), sm_tr s1 s2⟩ ?_
    dsimp only
    rw [nI_1, jr_cl (by omega), jr_cl (by omega)]; omega
  have labels : ∀ (S : Nat → Nat → Prop) (g : HS), XT Z vx A B g d S → sm12 B h g → acc (acc S (fun l => PS d (60 + l)) (nL d)) (PS d) (nP d) = TA d → lp (wb_NJ_touchAnew_94 Z post vx) ((0 : Int32), g) := by
    intro S g Xg sg eg
    refine lp_inv (fun q => ∃ i, q.1 = nI i ∧ i ≤ nL d ∧ XT Z vx A B q.2 d (acc S (fun l => PS d (60 + l)) i) ∧ sm12 B h q.2) (fun q => nL d - q.1.toNatClampNeg) ?_ _ ⟨0, rfl, by omega, Xg.eq (acc_0 _ _), sg⟩
    rintro ⟨x1, h1⟩ K ⟨i, e1, hi, X1, s1⟩ hK
    dsimp only at e1 X1 s1
    subst e1
    have C := X1.1
    have is : A 6 i = sAd A (60 + i) := by unfold sAd; rw [if_neg (by omega), show 60 + i - 60 = i from by omega]
    unfold wb_NJ_touchAnew_94
    dsimp only
    refine ⟨C.x, A 1 3, C.p (by omega), C.lT (by omega), sp_size C.la (pk_le (nL d) i (fun z => pins _ h1 X1 s1 (by rw [show i = nL d from by omega]; exact eg)) (fun z => ⟨C.x, A 1 3, C.p (by omega), C.lT (by omega), sp_get C.la z ⟨cst (C.L z).1, C.x, ?_⟩⟩))⟩
    rw [is]
    refine sp_joinSpot hd X1 (Or.inr ⟨by omega, by omega⟩) fun h2 X2 s2 => ?_
    rintro y rfl
    refine hK _ ⟨i + 1, nI_1 i, by omega, X2.eq (acc_s _ _ _), sm_tr s1 s2⟩ ?_
    dsimp only
    rw [nI_1, jr_cl (by omega), jr_cl (by omega)]; omega
  have juns : ∀ (S : Nat → Nat → Prop) (g : HS), XT Z vx A B g d S → sm12 B h g → acc (acc (acc S (Pju d) (nJ d)) (fun l => PS d (60 + l)) (nL d)) (PS d) (nP d) = TA d → lp (wb_NJ_touchAnew_60 Z post vx) ((0 : Int32), g) := by
    intro S g Xg sg eg
    refine lp_inv (fun q => ∃ i, q.1 = nI i ∧ i ≤ nJ d ∧ XT Z vx A B q.2 d (acc S (Pju d) i) ∧ sm12 B h q.2) (fun q => nJ d - q.1.toNatClampNeg) ?_ _ ⟨0, rfl, by omega, Xg.eq (acc_0 _ _), sg⟩
    rintro ⟨x1, h1⟩ K ⟨i, e1, hi, X1, s1⟩ hK
    dsimp only at e1 X1 s1
    subst e1
    have C := X1.1
    unfold wb_NJ_touchAnew_60
    dsimp only
    refine ⟨C.x, A 1 2, C.p (by omega), C.lT (by omega), sp_size C.ju (pk_le (nJ d) i (fun z => labels _ h1 X1 s1 (by rw [show i = nJ d from by omega]; exact eg)) (fun z => ⟨C.x, A 1 2, C.p (by omega), C.lT (by omega), sp_get C.ju z ⟨cst (C.J z).1, C.x, ?_⟩⟩))⟩
    have js := hd.2.2.2.1 i z
    have tg : (B (A 5 i)).1 ≤ 10 := by rw [C.tag (r := 5) (by omega) (by omega) z]; show 5 ≤ 10; omega
    refine sp_joinJunction hd X1 (by omega) (C.pJ z) tg fun h2 X2 s2 => ?_
    rintro y rfl
    refine hK _ ⟨i + 1, nI_1 i, by omega, X2.eq (acc_s _ _ _), sm_tr s1 s2⟩ ?_
    dsimp only
    rw [nI_1, jr_cl (by omega), jr_cl (by omega)]; omega
  refine lp_inv (fun q => ∃ i, q.1 = nI i ∧ i ≤ nW d ∧ XT Z vx A B q.2 d (acc (fun _ _ => False) (Pen d) i) ∧ sm12 B h q.2) (fun q => nW d - q.1.toNatClampNeg) ?_ _ ⟨0, rfl, by omega, X1.eq (acc_0 _ _), s1⟩
  rintro ⟨x1, h1⟩ K ⟨i, e1, hi, X1, s1⟩ hK
  dsimp only at e1 X1 s1
  subst e1
  have C := X1.1
  have next : ∀ h2, XT Z vx A B h2 d (acc (fun _ _ => False) (Pen d) (i + 1)) → sm12 B h h2 → i < nW d → wj_NJ_touchAnew_52 Z post K vx (nI i) h2 := by
    intro h2 X2 s2 hi
    rintro y rfl
    refine hK _ ⟨i + 1, nI_1 i, by omega, X2, s2⟩ ?_
    dsimp only
    rw [nI_1, jr_cl (by omega), jr_cl (by omega)]; omega
  unfold wb_NJ_touchAnew_9
  dsimp only
  refine ⟨C.x, A 1 1, C.p (by omega), C.lT (by omega), sp_size C.wi (pk_le (nW d) i (fun z => juns _ h1 X1 s1 (by rw [show i = nW d from by omega]; rfl)) (fun z => ⟨C.x, A 1 1, C.p (by omega), C.lT (by omega), sp_get C.wi z ⟨cst (C.W z).1, A 4 i, rfl, (C.W z).1, ?_⟩⟩))⟩
  have ww := hd.2.2.1 i z
  rw [(C.W z).2.2.2.2.2.2.2]
  refine ⟨fun y => next h1 (X1.eq (acc_n fun x v p => y ?_)) s1 z, fun y => ⟨C.x, A 1 1, C.p (by omega), C.lT (by omega), sp_get C.wi z ⟨cst (C.W z).1, C.x, sp_joinEnds hd X1 z fun h2 X2 s2 => next h2 (X2.eq ?_) (sm_tr s1 s2) z⟩⟩⟩
  · rw [p.1.2]; rfl
  · rw [show (0 : Int32) = nI 0 from rfl, nI_eq (by omega) (by omega)] at y
    rw [acc_s]
    funext u v
    refine propext ⟨fun q => ?_, fun q => ?_⟩
    · rcases q with q | q
      · exact Or.inl q
      · exact Or.inr q.2
    · rcases q with q | q
      · exact Or.inl q
      · exact Or.inr ⟨⟨z, y⟩, q⟩
end TCI
