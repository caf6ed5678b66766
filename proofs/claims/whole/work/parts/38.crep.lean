/-! THE CLASS's DOCUMENT IN THE HEAP. A r i: the address of the i-th of role r; B: the role of an address.
roles: 0 the object, 1 its lists, 2 their arrays, 3 sheets, 4 wires, 5 junctions, 6 labels, 7 pins, 8 ports, 9 buses, 10 ranks, 11 touching, 12 its rows, 13 joined, 14 its rows, 15 the table, 16 names and remarks, 20 the reference, 21 the answer -/
def obS (h : HS) (d : DS) (a t : Nat) : Prop := gT h a = 21 ∧ gI h 500 a = nI t ∧ gI h 501 a = par d t ∧ gI h 502 a = nI (bas d t) ∧ gI h 503 a = nI (cp d t) ∧ (bas d t = t → gI h 504 a = nI (cps d t))
def obW (h : HS) (d : DS) (a w : Nat) : Prop := gT h a = 23 ∧ gI h 700 a = nI (wSh d w) ∧ gI h 701 a = nI w ∧ gJ h 702 a = wX d w ∧ gJ h 703 a = wY d w ∧ gJ h 704 a = wX2 d w ∧ gJ h 705 a = wY2 d w ∧ gI h 706 a = nI (wDr d w)
def obJ (h : HS) (d : DS) (a k : Nat) : Prop := gT h a = 22 ∧ gI h 600 a = nI (jSh d k) ∧ gJ h 601 a = jX d k ∧ gJ h 602 a = jY d k
def obL (h : HS) (d : DS) (a l : Nat) : Prop := gT h a = 22 ∧ gI h 600 a = nI (lSh d l) ∧ gJ h 601 a = lX d l ∧ gJ h 602 a = lY d l ∧ gI h 603 a = nI (lNm d l) ∧ gI h 604 a = nI (60 + l)
def obP (h : HS) (d : DS) (a p : Nat) : Prop := gT h a = 22 ∧ gI h 600 a = nI (pSh d p) ∧ gJ h 601 a = pX d p ∧ gJ h 602 a = pY d p ∧ gI h 603 a = pPt d p ∧ gI h 604 a = nI p ∧ gI h 605 a = nI (pOp d p)
def obO (h : HS) (d : DS) (a k : Nat) : Prop := gT h a = 20 ∧ gI h 400 a = nI (oSh d k) ∧ gI h 401 a = nI (oLb d k) ∧ gI h 402 a = nI (oNm d k) ∧ gI h 403 a = nI (cnm (oSh d k) (lNm d (oLb d k))) ∧ gI h 404 a = nI (cnm (pr d (oSh d k)) (oNm d k))
def obU (h : HS) (d : DS) (a b : Nat) : Prop := gT h a = 17 ∧ gI h 100 a = nI (uSh d b) ∧ gI h 101 a = nI (uNm d b) ∧ gI h 102 a = nI (uFr d b) ∧ gI h 103 a = nI (uTo d b)
def ctr (d : DS) (r : Nat) : Nat := dN d 0 (r - 3)
def obj (h : HS) (d : DS) (r a i : Nat) : Prop := if r = 3 then obS h d a i else if r = 4 then obW h d a i else if r = 5 then obJ h d a i else if r = 6 then obL h d a i else if r = 7 then obP h d a i else if r = 8 then obO h d a i else obU h d a i
/-- list k of the object holds things of role r -/
def lsr (r : Nat) : Nat := if r = 3 then 0 else if r = 4 then 1 else if r = 5 then 2 else if r = 6 then 3 else if r = 7 then 5 else if r = 8 then 6 else 7
def CD (Z : Nat → Nat) (vx : Nat) (A : Nat → Nat → Nat) (B : Nat → Nat × Nat) (h : HS) (d : DS) : Prop :=
  (gT h vx = 16 ∧ B vx = (0, 0) ∧ ∀ k, k < 8 → gR h k vx = some (A 1 k) ∧ B (A 1 k) = (1, k) ∧ gT h (A 1 k) = 25 ∧ (B (A 2 k) = (2, k) ∨ A 2 k = A 1 k)) ∧
  (∀ r, 3 ≤ r → r ≤ 9 → lL Z h (A 1 (lsr r)) (A 2 (lsr r)) (ctr d r) (A r) ∧ ∀ i, i < ctr d r → obj h d r (A r i) i ∧ B (A r i) = (r, i)) ∧
  (gR h 8 vx = some (A 10 0) ∧ B (A 10 0) = (10, 0) ∧ gT h (A 10 0) = 1 ∧ gN h (A 10 0) = 1000 ∧ ∀ n, n < 1000 → gA h (A 10 0) n = rnk d n)
/-- the labels by their names -/
def BN (Z : Nat → Nat) (A : Nat → Nat → Nat) (h : HS) (m : Nat) (pm : Nat → Nat) : Prop := lL Z h (A 1 4) (A 2 4) m (fun i => A 6 (pm i))
theorem obj_frame {h h' : HS} {d : DS} {r a i : Nat} (c : ce h h' a) (o : obj h d r a i) : obj h' d r a i := by
  unfold obj at o ⊢
  unfold obS obW obJ obL obP obO obU at o ⊢
  simp only [c.T, c.I, c.J]
  exact o
theorem obj_T {h : HS} {d : DS} {r a i : Nat} (h1 : 3 ≤ r) (h2 : r ≤ 9) (o : obj h d r a i) : lsT (gT h a) := by
  unfold obj at o
  unfold obS obW obJ obL obP obO obU at o
  unfold lsT
  repeat' split at o
  all_goals first | (rw [o.1]; omega) | omega
theorem CD.frame {Z : Nat → Nat} {vx : Nat} {A : Nat → Nat → Nat} {B : Nat → Nat × Nat} {h h' : HS} {d : DS} (C : CD Z vx A B h d) (c : ∀ a, (B a).1 ≤ 10 → ce h h' a) : CD Z vx A B h' d := by
  obtain ⟨⟨c1, c2, c3⟩, c4, c5, c6, c7, c8, c9⟩ := C
  have ev := c vx (by rw [c2]; decide)
  have er := c (A 10 0) (by rw [c6]; decide)
  have l1 : ∀ k, k < 8 → ce h h' (A 1 k) := fun k hk => c _ (by rw [(c3 k hk).2.1]; show 1 ≤ 10; decide)
  have l2 : ∀ k, k < 8 → ce h h' (A 2 k) := fun k hk => by
    rcases (c3 k hk).2.2.2 with z | z
    · exact c _ (by rw [z]; show 2 ≤ 10; decide)
    · rw [z]; exact l1 k hk
  refine ⟨⟨by rw [ev.T]; exact c1, c2, fun k hk => ?_⟩, fun r h1 h2 => ?_, by rw [ev.R]; exact c5, c6, by rw [er.T]; exact c7, by rw [er.N]; exact c8, fun n hn => by rw [er.A]; exact c9 n hn⟩
  · obtain ⟨q1, q2, q3, q4⟩ := c3 k hk
    exact ⟨by rw [ev.R]; exact q1, q2, by rw [(l1 k hk).T]; exact q3, q4⟩
  · obtain ⟨p1, p2⟩ := c4 r h1 h2
    have hk : lsr r < 8 := by unfold lsr; repeat' split
                              all_goals omega
    refine ⟨p1.frame (l1 _ hk) (fun _ => l2 _ hk), fun i hi => ?_⟩
    obtain ⟨o1, o2⟩ := p2 i hi
    exact ⟨obj_frame (c _ (by rw [o2]; show r ≤ 10; omega)) o1, o2⟩
section CDX
variable {Z : Nat → Nat} {vx : Nat} {A : Nat → Nat → Nat} {B : Nat → Nat × Nat} {h : HS} {d : DS}
theorem CD.x (C : CD Z vx A B h d) : gT h vx = 16 := C.1.1
theorem CD.p (C : CD Z vx A B h d) {k : Nat} (hk : k < 8) : gR h k vx = some (A 1 k) := (C.1.2.2 k hk).1
theorem CD.lT (C : CD Z vx A B h d) {k : Nat} (hk : k < 8) : gT h (A 1 k) = 25 := (C.1.2.2 k hk).2.2.1
theorem CD.sh (C : CD Z vx A B h d) : lL Z h (A 1 0) (A 2 0) (nS d) (A 3) := (C.2.1 3 (by omega) (by omega)).1
theorem CD.wi (C : CD Z vx A B h d) : lL Z h (A 1 1) (A 2 1) (nW d) (A 4) := (C.2.1 4 (by omega) (by omega)).1
theorem CD.ju (C : CD Z vx A B h d) : lL Z h (A 1 2) (A 2 2) (nJ d) (A 5) := (C.2.1 5 (by omega) (by omega)).1
theorem CD.la (C : CD Z vx A B h d) : lL Z h (A 1 3) (A 2 3) (nL d) (A 6) := (C.2.1 6 (by omega) (by omega)).1
theorem CD.pi (C : CD Z vx A B h d) : lL Z h (A 1 5) (A 2 5) (nP d) (A 7) := (C.2.1 7 (by omega) (by omega)).1
theorem CD.po (C : CD Z vx A B h d) : lL Z h (A 1 6) (A 2 6) (nO d) (A 8) := (C.2.1 8 (by omega) (by omega)).1
theorem CD.bu (C : CD Z vx A B h d) : lL Z h (A 1 7) (A 2 7) (nU d) (A 9) := (C.2.1 9 (by omega) (by omega)).1
theorem CD.S (C : CD Z vx A B h d) {i : Nat} (hi : i < nS d) : obS h d (A 3 i) i := ((C.2.1 3 (by omega) (by omega)).2 i hi).1
theorem CD.W (C : CD Z vx A B h d) {i : Nat} (hi : i < nW d) : obW h d (A 4 i) i := ((C.2.1 4 (by omega) (by omega)).2 i hi).1
theorem CD.J (C : CD Z vx A B h d) {i : Nat} (hi : i < nJ d) : obJ h d (A 5 i) i := ((C.2.1 5 (by omega) (by omega)).2 i hi).1
theorem CD.L (C : CD Z vx A B h d) {i : Nat} (hi : i < nL d) : obL h d (A 6 i) i := ((C.2.1 6 (by omega) (by omega)).2 i hi).1
theorem CD.P (C : CD Z vx A B h d) {i : Nat} (hi : i < nP d) : obP h d (A 7 i) i := ((C.2.1 7 (by omega) (by omega)).2 i hi).1
theorem CD.O (C : CD Z vx A B h d) {i : Nat} (hi : i < nO d) : obO h d (A 8 i) i := ((C.2.1 8 (by omega) (by omega)).2 i hi).1
theorem CD.U (C : CD Z vx A B h d) {i : Nat} (hi : i < nU d) : obU h d (A 9 i) i := ((C.2.1 9 (by omega) (by omega)).2 i hi).1
theorem CD.tag (C : CD Z vx A B h d) {r i : Nat} (h1 : 3 ≤ r) (h2 : r ≤ 9) (hi : i < ctr d r) : B (A r i) = (r, i) := ((C.2.1 r h1 h2).2 i hi).2
end CDX
/-! leaves -/
section LEA
variable {Z : Nat → Nat} {h : HS} {a b : Nat} {post : Int32 → HS → Prop}
theorem sp_isAt {x : Int32} {u v : Int64} (ha : gT h a = 22) (h1 : (gI h 600 a = x ∧ gJ h 601 a = u ∧ gJ h 602 a = v) → post 1 h) (h0 : ¬ (gI h 600 a = x ∧ gJ h 601 a = u ∧ gJ h 602 a = v) → post 0 h) : wp_Spot_isAt Z post h a x u v := by
  refine ⟨ha, fun z => h0 fun w => z w.1, fun z => ⟨ha, fun y => h0 fun w => y ((lg_cmp_eq _ _).mpr w.2.1), fun y => ⟨ha, fun x => h0 fun w => x ((lg_cmp_eq _ _).mpr w.2.2), fun x => h1 ⟨z, (lg_cmp_eq _ _).mp y, (lg_cmp_eq _ _).mp x⟩⟩⟩⟩
theorem sp_isOn {x : Int32} (ha : gT h a = 23) (h1 : (gI h 706 a = 0 ∧ gI h 700 a = x) → post 1 h) (h0 : ¬ (gI h 706 a = 0 ∧ gI h 700 a = x) → post 0 h) : wp_Wire_isOn Z post h a x :=
  ⟨ha, fun z => h0 fun w => z w.1, fun z => ⟨ha, fun y => h0 fun w => y w.2, fun y => h1 ⟨z, y⟩⟩⟩
theorem sp_hasEnd {u v : Int64} (ha : gT h a = 23) (h1 : ((gJ h 702 a = u ∧ gJ h 703 a = v) ∨ (gJ h 704 a = u ∧ gJ h 705 a = v)) → post 1 h) (h0 : ¬ ((gJ h 702 a = u ∧ gJ h 703 a = v) ∨ (gJ h 704 a = u ∧ gJ h 705 a = v)) → post 0 h) : wp_Wire_hasEnd Z post h a u v := by
  have key : ¬ (gJ h 702 a = u ∧ gJ h 703 a = v) → wj_Wire_hasEnd_18 Z post a u v h := fun n =>
    ⟨ha, fun z => h0 fun w => by rcases w with w | w; exact n w; exact z ((lg_cmp_eq _ _).mpr w.1), fun z => ⟨ha, fun y => h0 fun w => by rcases w with w | w; exact n w; exact y ((lg_cmp_eq _ _).mpr w.2), fun y => h1 (Or.inr ⟨(lg_cmp_eq _ _).mp z, (lg_cmp_eq _ _).mp y⟩)⟩⟩
  exact ⟨ha, fun z => key fun w => z ((lg_cmp_eq _ _).mpr w.1), fun z => ⟨ha, fun y => h1 (Or.inl ⟨(lg_cmp_eq _ _).mp z, (lg_cmp_eq _ _).mp y⟩), fun y => key fun w => y ((lg_cmp_eq _ _).mpr w.2)⟩⟩
theorem sp_common {d : DS} {v w : Nat} (ov : obW h d a v) (ow : obW h d b w) (h1 : hend d v w → post 1 h) (h0 : ¬ hend d v w → post 0 h) : wp_Wire_hasCommonEnd Z post h a (some b) := by
  obtain ⟨v1, v2, v3, v4, v5, v6, v7, v8⟩ := ov
  obtain ⟨w1, w2, w3, w4, w5, w6, w7, w8⟩ := ow
  refine ⟨b, rfl, w1, b, rfl, w1, v1, sp_hasEnd v1 (fun z => ⟨fun _ => h1 ?_, fun y => absurd y (by decide)⟩) (fun z => ⟨fun y => absurd rfl y, fun _ => ⟨b, rfl, w1, b, rfl, w1, v1, sp_hasEnd v1 (fun y => ⟨fun x => absurd x (by decide), fun _ => h1 ?_⟩) (fun y => ⟨fun _ => h0 ?_, fun x => absurd rfl x⟩)⟩⟩)⟩
  · rw [v4, v5, v6, v7, w4, w5] at z
    unfold hend
    rcases z with z | z
    · exact Or.inl z
    · exact Or.inr (Or.inr (Or.inl z))
  · rw [v4, v5, v6, v7, w6, w7] at y
    unfold hend
    rcases y with y | y
    · exact Or.inr (Or.inl y)
    · exact Or.inr (Or.inr (Or.inr y))
  · rw [v4, v5, v6, v7, w6, w7] at y
    rw [v4, v5, v6, v7, w4, w5] at z
    unfold hend
    intro x
    rcases x with x | x | x | x
    · exact z (Or.inl x)
    · exact y (Or.inl x)
    · exact z (Or.inr x)
    · exact y (Or.inr x)
/-- a wire goes through a spot: it isn't dropped, it is on its sheet -/
theorem sp_through {d : DS} {w s : Nat} {x y : Int64} (ow : obW h d a w) (hw : wSh d w < 2 ^ 31) (hs : s < 2 ^ 31) (hd : wDr d w ≤ 1) (ob : gT h b = 22 ∧ gI h 600 b = nI s ∧ gJ h 601 b = x ∧ gJ h 602 b = y) (h1 : (wDr d w = 0 ∧ wSh d w = s ∧ thr d w x y) → post 1 h) (h0 : ¬ (wDr d w = 0 ∧ wSh d w = s ∧ thr d w x y) → post 0 h) : wp_Wire_goesThrough Z post h a (some b) := by
  obtain ⟨v1, v2, v3, v4, v5, v6, v7, v8⟩ := ow
  obtain ⟨b1, b2, b3, b4⟩ := ob
  have mn : ∀ p q : Int64, ∀ z : Int64, (¬ z < (if q < p then q else p) ∧ ¬ (if q < p then p else q) < z) ↔ ((p ≤ z ∧ z ≤ q) ∨ (q ≤ z ∧ z ≤ p)) := by
    intro p q z
    simp only [Int64.lt_iff_toInt_lt, Int64.le_iff_toInt_le]
    split <;> omega
  refine ⟨b, rfl, b1, v1, sp_isOn v1 (fun z => ?_) (fun z => ⟨fun _ => h0 fun w => z ⟨by rw [v8, w.1]; rfl, by rw [v2, b2, w.2.1]⟩, fun y => absurd rfl y⟩)⟩
  rw [v8, v2, b2] at z
  have z1 : wDr d w = 0 := by
    have := z.1
    rw [show (0 : Int32) = nI 0 from rfl, nI_eq (by omega) (by omega)] at this
    exact this
  have z2 : wSh d w = s := (nI_eq hw hs).mp z.2
  unfold thr at h1 h0
  rw [← v4, ← v5, ← v6, ← v7, ← b3, ← b4] at h1 h0
  refine ⟨fun y => absurd y (by decide), fun _ => ⟨b, rfl, b1, v1, v1, fun c1 => h0 fun q => ?_, fun c1 => ⟨b, rfl, b1, v1, v1, fun c2 => h0 fun q => ?_, fun c2 => ⟨b, rfl, b1, v1, v1, fun c3 => h0 fun q => ?_, fun c3 => ⟨b, rfl, b1, v1, v1, fun c4 => h0 fun q => ?_, fun c4 => ⟨v1, v1, b, rfl, b1, v1, v1, v1, b, rfl, b1, v1, fun c5 => h0 fun q => ?_, fun c5 => h1 ⟨z1, z2, ?_⟩⟩⟩⟩⟩⟩⟩
  · exact (((mn _ _ _).mpr q.2.2.1).1 ((lg_cmp_lt _ _).mp c1)).elim
  · exact (((mn _ _ _).mpr q.2.2.1).2 ((lg_cmp_gt _ _).mp c2)).elim
  · exact (((mn _ _ _).mpr q.2.2.2.1).1 ((lg_cmp_lt _ _).mp c3)).elim
  · exact (((mn _ _ _).mpr q.2.2.2.1).2 ((lg_cmp_gt _ _).mp c4)).elim
  · exact c5 ((lg_cmp_eq _ _).mpr q.2.2.2.2)
  · exact ⟨(mn _ _ _).mp ⟨fun q => c1 ((lg_cmp_lt _ _).mpr q), fun q => c2 ((lg_cmp_gt _ _).mpr q)⟩, (mn _ _ _).mp ⟨fun q => c3 ((lg_cmp_lt _ _).mpr q), fun q => c4 ((lg_cmp_gt _ _).mpr q)⟩, (lg_cmp_eq _ _).mp c5⟩
theorem sp_isPower {n : Nat} (hn : n < 2 ^ 31) (h1 : 900 ≤ n → post 1 h) (h0 : n < 900 → post 0 h) : wp_NJ_isPower Z post h (nI n) :=
  pk_lt n 900 (fun z => h0 z) (fun z => h1 z)
theorem sp_nameNode {s n : Nat} (hs : s < 16) (hn : n < 1000) (kk : post (nI (cnm s n)) h) : wp_NJ_nameNode Z post h (nI s) (nI n) := by
  unfold wp_NJ_nameNode
  unfold cnm at kk
  refine sp_isPower (by omega) (fun z => ⟨fun y => absurd y (by decide), fun _ => ?_⟩) (fun z => ⟨fun _ => ?_, fun y => absurd rfl y⟩)
  · rw [if_pos z] at kk
    rw [show (960 : Int32) = nI 960 from rfl, show (900 : Int32) = nI 900 from rfl, nI_add, pk_sub (by omega), show 960 + n - 900 = 60 + n from by omega]
    exact kk
  · rw [if_neg (by omega)] at kk
    unfold wp_Joins_node
    rw [show (1 : Int32) = nI 1 from rfl, nI_add, jr_node (by omega)]
    exact kk
end LEA
