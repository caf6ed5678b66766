/-! THE REFERENCE. vm its object, R f the array of its field f -/
def rK (f : Nat) : Nat := if f = 807 ∨ f = 819 ∨ f = 830 then 2 else if f = 806 ∨ f = 810 ∨ f = 814 ∨ f = 818 then 3 else if f = 802 ∨ f = 803 ∨ f = 805 ∨ f = 809 ∨ f = 812 ∨ f = 813 ∨ f = 816 ∨ f = 817 ∨ f = 821 ∨ f = 823 ∨ f = 824 ∨ f = 825 ∨ f = 826 ∨ f = 827 ∨ f = 828 then 1 else 0
def rN (f : Nat) : Nat := if f = 802 ∨ f = 803 then 16 else if f = 805 ∨ f = 807 ∨ f = 810 then 100 else if f = 806 then 400 else if f = 809 then 50 else if f = 814 ∨ f = 818 then 120 else if f = 812 ∨ f = 813 ∨ f = 816 ∨ f = 817 ∨ f = 819 then 60 else if f = 821 then 90 else if f = 823 then 64 else if f = 824 then 1000 else if f = 825 ∨ f = 826 then 19520 else 960
theorem rN_lt (f : Nat) : rN f < 2 ^ 31 := by
  unfold rN; repeat' split
  all_goals omega
def RS (vm : Nat) (R : Nat → Nat) (B : Nat → Nat × Nat) (h : HS) : Prop := gT h vm = 24 ∧ B vm = (20, 0) ∧ ∀ f, rK f ≠ 0 → gR h f vm = some (R f) ∧ B (R f) = (20, f) ∧ gT h (R f) = rK f ∧ gN h (R f) = rN f
/-- what has been told -/
def RD (vm : Nat) (R : Nat → Nat) (h : HS) (d : DS) : Prop :=
  (gI h 801 vm = nI (nS d) ∧ gI h 804 vm = nI (nW d) ∧ gI h 808 vm = nI (nJ d) ∧ gI h 811 vm = nI (nL d) ∧ gI h 815 vm = nI (nP d) ∧ gI h 820 vm = nI (nO d) ∧ gI h 822 vm = nI (nU d)) ∧
  (∀ t, t < nS d → gA h (R 802) t = par d t ∧ gA h (R 803) t = nI (bas d t)) ∧
  ((∀ w, w < nW d → gA h (R 805) w = nI (wSh d w) ∧ gL h (R 806) (4 * w) = wX d w ∧ gL h (R 806) (4 * w + 1) = wY d w ∧ gL h (R 806) (4 * w + 2) = wX2 d w ∧ gL h (R 806) (4 * w + 3) = wY2 d w) ∧ ∀ w, w < 100 → gA h (R 807) w = nI (wDr d w)) ∧
  (∀ k, k < nJ d → gA h (R 809) k = nI (jSh d k) ∧ gL h (R 810) (2 * k) = jX d k ∧ gL h (R 810) (2 * k + 1) = jY d k) ∧
  (∀ l, l < nL d → gA h (R 812) l = nI (lSh d l) ∧ gA h (R 813) l = nI (lNm d l) ∧ gL h (R 814) (2 * l) = lX d l ∧ gL h (R 814) (2 * l + 1) = lY d l) ∧
  ((∀ p, p < nP d → gA h (R 816) p = nI (pSh d p) ∧ gA h (R 817) p = pPt d p ∧ gL h (R 818) (2 * p) = pX d p ∧ gL h (R 818) (2 * p + 1) = pY d p) ∧ ∀ p, p < 60 → gA h (R 819) p = nI (pOp d p)) ∧
  (∀ k, k < nO d → gA h (R 821) (3 * k) = nI (oSh d k) ∧ gA h (R 821) (3 * k + 1) = nI (oLb d k) ∧ gA h (R 821) (3 * k + 2) = nI (oNm d k)) ∧
  (∀ b, b < nU d → gA h (R 823) (4 * b) = nI (uSh d b) ∧ gA h (R 823) (4 * b + 1) = nI (uNm d b) ∧ gA h (R 823) (4 * b + 2) = nI (uFr d b) ∧ gA h (R 823) (4 * b + 3) = nI (uTo d b)) ∧
  ∀ n, n < 1000 → gA h (R 824) n = rnk d n
def NR (R : Nat → Nat) (h : HS) (ld : Nat → Nat) : Prop := ∃ up, (∀ n, n < 19520 → gA h (R 825) n = nI (up n)) ∧ FO up ld (fun n => n < 19520) ∧ ∀ n, ¬ n < 19520 → ld n = n
theorem nI_z {n : Nat} (h : n < 2 ^ 31) : nI n = 0 ↔ n = 0 := by
  rw [show (0 : Int32) = nI 0 from rfl, nI_eq h (by omega)]
section REF
variable {Z : Nat → Nat} {vm : Nat} {R : Nat → Nat} {B : Nat → Nat × Nat} {h h' : HS} {d : DS}
theorem RS.rd {P : Nat → Prop} {x : Int32} (S : RS vm R B h) (f k i : Nat) (hk : rK f = k) (k0 : k ≠ 0) (hi : i < rN f) (p : P (R f)) (hx : x = nI i := by rfl) : ∃ a, gR h f vm = some a ∧ gT h a = k ∧ vp_in x (gN h a) ∧ P a := by
  obtain ⟨q1, q2, q3, q4⟩ := S.2.2 f (by rw [hk]; exact k0)
  have := rN_lt f
  exact ⟨R f, q1, by rw [q3]; exact hk, by rw [q4]; exact pk_in i _ hi hx this, p⟩
theorem RS.ne (S : RS vm R B h) {f g : Nat} (hf : rK f ≠ 0) (hg : rK g ≠ 0) (n : f ≠ g) : R f ≠ R g := fun e => by
  have a := (S.2.2 f hf).2.1
  rw [e, (S.2.2 g hg).2.1] at a
  exact n (Prod.mk.inj a).2.symm
theorem RS.nv (S : RS vm R B h) {f : Nat} (hf : rK f ≠ 0) : R f ≠ vm := fun e => by
  have a := (S.2.2 f hf).2.1
  rw [e, S.2.1] at a
  have := (Prod.mk.inj a).2
  subst this
  exact hf rfl
theorem RD.frame (D : RD vm R h d) (cv : ∀ f, 801 ≤ f → f ≤ 822 → gI h' f vm = gI h f vm) (c : ∀ f, 802 ≤ f → f ≤ 824 → rK f ≠ 0 → gA h' (R f) = gA h (R f) ∧ gL h' (R f) = gL h (R f)) : RD vm R h' d := by
  unfold RD at D ⊢
  rw [cv 801 (by omega) (by omega), cv 804 (by omega) (by omega), cv 808 (by omega) (by omega), cv 811 (by omega) (by omega), cv 815 (by omega) (by omega), cv 820 (by omega) (by omega), cv 822 (by omega) (by omega), (c 802 (by omega) (by omega) (by decide)).1, (c 803 (by omega) (by omega) (by decide)).1, (c 805 (by omega) (by omega) (by decide)).1, (c 806 (by omega) (by omega) (by decide)).2, (c 807 (by omega) (by omega) (by decide)).1, (c 809 (by omega) (by omega) (by decide)).1, (c 810 (by omega) (by omega) (by decide)).2, (c 812 (by omega) (by omega) (by decide)).1, (c 813 (by omega) (by omega) (by decide)).1, (c 814 (by omega) (by omega) (by decide)).2, (c 816 (by omega) (by omega) (by decide)).1, (c 817 (by omega) (by omega) (by decide)).1, (c 818 (by omega) (by omega) (by decide)).2, (c 819 (by omega) (by omega) (by decide)).1, (c 821 (by omega) (by omega) (by decide)).1, (c 823 (by omega) (by omega) (by decide)).1, (c 824 (by omega) (by omega) (by decide)).1]
  exact D
theorem r_isOn {post : Int32 → HS → Prop} {w s : Nat} (hd : WF d) (S : RS vm R B h) (D : RD vm R h d) (hw : w < nW d) (hs : s < 2 ^ 31) (k1 : (wSh d w = s ∧ wDr d w = 0) → post 1 h) (k0 : ¬ (wSh d w = s ∧ wDr d w = 0) → post 0 h) : wp_Mod_isOn Z post h vm (nI w) (nI s) := by
  have hW := hd.1.2.1
  have hS := hd.1.1
  obtain ⟨w1, -, w3⟩ := hd.2.2.1 w hw
  refine ⟨S.1, S.rd 805 1 w rfl (by decide) (by show w < 100; omega) ?_⟩
  rw [jr_cl (by omega), (D.2.2.1.1 w hw).1, nI_eq (by omega) hs]
  refine ⟨fun e => k0 fun q => e q.1, fun e => ⟨S.1, S.rd 807 2 w rfl (by decide) (by show w < 100; omega) ?_⟩⟩
  rw [D.2.2.1.2 w (by omega), nI_z (by omega)]
  exact ⟨fun e2 => k0 fun q => e2 q.2, fun e2 => k1 ⟨e, e2⟩⟩
theorem r_goesThrough {post : Int32 → HS → Prop} {w : Nat} {x y : Int64} (hd : WF d) (S : RS vm R B h) (D : RD vm R h d) (hw : w < nW d) (k1 : thr d w x y → post 1 h) (k0 : ¬ thr d w x y → post 0 h) : wp_Mod_goesThrough Z post h vm (nI w) x y := by
  have hW := hd.1.2.1
  obtain ⟨-, l1, l2, l3, l4⟩ := D.2.2.1.1 w hw
  unfold wp_Mod_goesThrough
  rw [show (4 : Int32) = nI 4 from rfl, pk_mul, show (1 : Int32) = nI 1 from rfl, show (2 : Int32) = nI 2 from rfl, show (3 : Int32) = nI 3 from rfl, nI_add, nI_add, nI_add, jr_cl (by omega), jr_cl (by omega), jr_cl (by omega), jr_cl (by omega)]
  refine ⟨S.1, S.rd 806 3 (4 * w) rfl (by decide) (by show 4 * w < 400; omega) ?_⟩
  rintro y4 rfl
  refine ⟨S.1, S.rd 806 3 (4 * w + 1) rfl (by decide) (by show 4 * w + 1 < 400; omega) ?_⟩
  rintro y8 rfl
  refine ⟨S.1, S.rd 806 3 (4 * w + 2) rfl (by decide) (by show 4 * w + 2 < 400; omega) ?_⟩
  rintro y12 rfl
  refine ⟨S.1, S.rd 806 3 (4 * w + 3) rfl (by decide) (by show 4 * w + 3 < 400; omega) ?_⟩
  rintro y16 rfl
  rw [l1, l2, l3, l4]
  unfold thr at k1 k0
  have fin1 : ((wX d w ≤ x ∧ x ≤ wX2 d w) ∨ (wX2 d w ≤ x ∧ x ≤ wX d w)) → ((wY d w ≤ y ∧ y ≤ wY2 d w) ∨ (wY2 d w ≤ y ∧ y ≤ wY d w)) → wj_Mod_goesThrough_106 Z post vm x y (wX d w) (wY d w) (wX2 d w) (wY2 d w) h := fun a b =>
    ⟨fun e => absurd e (by decide), fun _ => ⟨fun e => k0 fun q => e ((lg_cmp_eq _ _).mpr q.2.2), fun e => k1 ⟨a, b, (lg_cmp_eq _ _).mp e⟩⟩⟩
  have fin0 : ¬ (((wX d w ≤ x ∧ x ≤ wX2 d w) ∨ (wX2 d w ≤ x ∧ x ≤ wX d w)) ∧ ((wY d w ≤ y ∧ y ≤ wY2 d w) ∨ (wY2 d w ≤ y ∧ y ≤ wY d w))) → wj_Mod_goesThrough_110 Z post vm x y (wX d w) (wY d w) (wX2 d w) (wY2 d w) h := fun a =>
    ⟨fun _ => k0 fun q => a ⟨q.1, q.2.1⟩, fun e => absurd rfl e⟩
  have g90 : ((wX d w ≤ x ∧ x ≤ wX2 d w) ∨ (wX2 d w ≤ x ∧ x ≤ wX d w)) → ¬ (wY d w ≤ y ∧ y ≤ wY2 d w) → wj_Mod_goesThrough_90 Z post vm x y (wX d w) (wY d w) (wX2 d w) (wY2 d w) h := by
    intro a b
    refine ⟨fun e => fin0 fun q => ?_, fun e => ⟨fun f => fin0 fun q => ?_, fun f => fin1 a (Or.inr ⟨?_, ?_⟩)⟩⟩
    · rw [lg_cmp_lt] at e
      rcases q.2 with z | z
      · exact b z
      · rw [Int64.lt_iff_toInt_lt] at e; rw [Int64.le_iff_toInt_le, Int64.le_iff_toInt_le] at z; omega
    · rw [lg_cmp_gt] at f
      rcases q.2 with z | z
      · exact b z
      · rw [Int64.lt_iff_toInt_lt] at f; rw [Int64.le_iff_toInt_le, Int64.le_iff_toInt_le] at z; omega
    · rw [lg_cmp_lt, Int64.lt_iff_toInt_lt] at e; rw [Int64.le_iff_toInt_le]; omega
    · rw [lg_cmp_gt, Int64.lt_iff_toInt_lt] at f; rw [Int64.le_iff_toInt_le]; omega
  have g74 : ((wX d w ≤ x ∧ x ≤ wX2 d w) ∨ (wX2 d w ≤ x ∧ x ≤ wX d w)) → wj_Mod_goesThrough_74 Z post vm x y (wX d w) (wY d w) (wX2 d w) (wY2 d w) h := by
    intro a
    refine ⟨fun e => g90 a fun q => ?_, fun e => ⟨fun f => fin1 a (Or.inl ⟨?_, ?_⟩), fun f => g90 a fun q => f ?_⟩⟩
    · rw [lg_cmp_lt, Int64.lt_iff_toInt_lt] at e; rw [Int64.le_iff_toInt_le, Int64.le_iff_toInt_le] at q; omega
    · rw [lg_cmp_lt, Int64.lt_iff_toInt_lt] at e; rw [Int64.le_iff_toInt_le]; omega
    · rw [lg_cmp_le] at f; exact f
    · rw [lg_cmp_le]; exact q.2
  have g60 : ¬ (wX d w ≤ x ∧ x ≤ wX2 d w) → wj_Mod_goesThrough_60 Z post vm x y (wX d w) (wY d w) (wX2 d w) (wY2 d w) h := by
    intro b
    refine ⟨fun e => fin0 fun q => ?_, fun e => ⟨fun f => fin0 fun q => ?_, fun f => g74 (Or.inr ⟨?_, ?_⟩)⟩⟩
    · rw [lg_cmp_lt] at e
      rcases q.1 with z | z
      · exact b z
      · rw [Int64.lt_iff_toInt_lt] at e; rw [Int64.le_iff_toInt_le, Int64.le_iff_toInt_le] at z; omega
    · rw [lg_cmp_gt] at f
      rcases q.1 with z | z
      · exact b z
      · rw [Int64.lt_iff_toInt_lt] at f; rw [Int64.le_iff_toInt_le, Int64.le_iff_toInt_le] at z; omega
    · rw [lg_cmp_lt, Int64.lt_iff_toInt_lt] at e; rw [Int64.le_iff_toInt_le]; omega
    · rw [lg_cmp_gt, Int64.lt_iff_toInt_lt] at f; rw [Int64.le_iff_toInt_le]; omega
  refine ⟨fun e => g60 fun q => ?_, fun e => ⟨fun f => g74 (Or.inl ⟨?_, ?_⟩), fun f => g60 fun q => f ?_⟩⟩
  · rw [lg_cmp_lt, Int64.lt_iff_toInt_lt] at e; rw [Int64.le_iff_toInt_le, Int64.le_iff_toInt_le] at q; omega
  · rw [lg_cmp_lt, Int64.lt_iff_toInt_lt] at e; rw [Int64.le_iff_toInt_le]; omega
  · rw [lg_cmp_le] at f; exact f
  · rw [lg_cmp_le]; exact q.2
theorem r_haveEnd {post : Int32 → HS → Prop} {v w : Nat} (hd : WF d) (S : RS vm R B h) (D : RD vm R h d) (hv : v < nW d) (hw : w < nW d) (k1 : hend d v w → post 1 h) (k0 : ¬ hend d v w → post 0 h) : wp_Mod_haveEnd Z post h vm (nI v) (nI w) := by
  have hW := hd.1.2.1
  obtain ⟨-, l1, l2, l3, l4⟩ := D.2.2.1.1 v hv
  obtain ⟨-, m1, m2, m3, m4⟩ := D.2.2.1.1 w hw
  have key : ∀ a b, a < 2 → b < 2 → (gL h (R 806) (4 * v + 2 * a) = gL h (R 806) (4 * w + 2 * b) ∧ gL h (R 806) (4 * v + 2 * a + 1) = gL h (R 806) (4 * w + 2 * b + 1)) → hend d v w := by
    intro a b ha hb q
    unfold hend
    have : (a = 0 ∧ b = 0) ∨ (a = 0 ∧ b = 1) ∨ (a = 1 ∧ b = 0) ∨ (a = 1 ∧ b = 1) := by omega
    rcases this with ⟨rfl, rfl⟩ | ⟨rfl, rfl⟩ | ⟨rfl, rfl⟩ | ⟨rfl, rfl⟩
    · left; rw [← l1, ← l2, ← m1, ← m2]; exact q
    · right; left; rw [← l1, ← l2, ← m3, ← m4]; exact q
    · right; right; left; rw [← l3, ← l4, ← m1, ← m2]; exact q
    · right; right; right; rw [← l3, ← l4, ← m3, ← m4]; exact q
  have conv : hend d v w → ∃ a b, a < 2 ∧ b < 2 ∧ gL h (R 806) (4 * v + 2 * a) = gL h (R 806) (4 * w + 2 * b) ∧ gL h (R 806) (4 * v + 2 * a + 1) = gL h (R 806) (4 * w + 2 * b + 1) := by
    intro q
    unfold hend at q
    rw [← l1, ← l2, ← l3, ← l4, ← m1, ← m2, ← m3, ← m4] at q
    rcases q with q | q | q | q
    · exact ⟨0, 0, by omega, by omega, q⟩
    · exact ⟨0, 1, by omega, by omega, q⟩
    · exact ⟨1, 0, by omega, by omega, q⟩
    · exact ⟨1, 1, by omega, by omega, q⟩
  refine lp_inv (fun q => ∃ a, a ≤ 2 ∧ q = (nI v, nI w, nI (2 * a), h) ∧ ∀ a' b', a' < a → b' < 2 → ¬ (gL h (R 806) (4 * v + 2 * a') = gL h (R 806) (4 * w + 2 * b') ∧ gL h (R 806) (4 * v + 2 * a' + 1) = gL h (R 806) (4 * w + 2 * b' + 1))) (fun q => 4 - q.2.2.1.toNatClampNeg) ?_ _ ⟨0, by omega, rfl, fun a' b' z => absurd z (Nat.not_lt_zero _)⟩
  rintro q K ⟨a, ha, rfl, o⟩ hK
  unfold wb_Mod_haveEnd_2
  dsimp only
  refine pk_le 4 (2 * a) (fun z => k0 fun e => ?_) (fun z => ?_)
  · obtain ⟨a', b', q1, q2, q3⟩ := conv e
    exact o a' b' (by omega) q2 q3
  refine lp_inv (fun q => ∃ b, b ≤ 2 ∧ q = (nI v, nI w, nI (2 * a), nI (2 * b), h) ∧ ∀ b', b' < b → ¬ (gL h (R 806) (4 * v + 2 * a) = gL h (R 806) (4 * w + 2 * b') ∧ gL h (R 806) (4 * v + 2 * a + 1) = gL h (R 806) (4 * w + 2 * b' + 1))) (fun q => 4 - q.2.2.2.1.toNatClampNeg) ?_ _ ⟨0, by omega, rfl, fun b' z => absurd z (Nat.not_lt_zero _)⟩
  rintro q K2 ⟨b, hb, rfl, o2⟩ hK2
  have e2 : ∀ n, nI n + 2 = nI (n + 2) := fun n => nI_add n 2
  have next : b < 2 → ¬ (gL h (R 806) (4 * v + 2 * a) = gL h (R 806) (4 * w + 2 * b) ∧ gL h (R 806) (4 * v + 2 * a + 1) = gL h (R 806) (4 * w + 2 * b + 1)) → wj_Mod_haveEnd_72 Z post K K2 vm (nI v) (nI w) (nI (2 * a)) (nI (2 * b)) h := by
    intro hb n
    rintro y rfl
    refine hK2 _ ⟨b + 1, by omega, by rw [e2, show 2 * b + 2 = 2 * (b + 1) from by omega], fun b' z => ?_⟩ ?_
    · by_cases y : b' = b
      · subst y; exact n
      · exact o2 b' (by omega)
    · dsimp only
      rw [e2, jr_cl (by omega), jr_cl (by omega)]; omega
  unfold wb_Mod_haveEnd_10
  dsimp only
  refine pk_le 4 (2 * b) (fun y => ?_) (fun y => ?_)
  · rintro y rfl
    refine hK _ ⟨a + 1, by omega, by rw [e2, show 2 * a + 2 = 2 * (a + 1) from by omega], fun a' b' y1 y2 => ?_⟩ ?_
    · by_cases y3 : a' = a
      · subst y3; exact o2 b' (by omega)
      · exact o a' b' (by omega) y2
    · dsimp only
      rw [e2, jr_cl (by omega), jr_cl (by omega)]; omega
  rw [show (4 : Int32) = nI 4 from rfl, pk_mul, pk_mul, nI_add, nI_add, show (1 : Int32) = nI 1 from rfl, nI_add, nI_add, jr_cl (by omega), jr_cl (by omega), jr_cl (by omega), jr_cl (by omega)]
  refine ⟨S.1, S.rd 806 3 (4 * v + 2 * a) rfl (by decide) (by show 4 * v + 2 * a < 400; omega) ⟨S.1, S.rd 806 3 (4 * w + 2 * b) rfl (by decide) (by show 4 * w + 2 * b < 400; omega) ⟨fun e => next (by omega) fun q => e ((lg_cmp_eq _ _).mpr q.1), fun e => ⟨S.1, S.rd 806 3 (4 * v + 2 * a + 1) rfl (by decide) (by show 4 * v + 2 * a + 1 < 400; omega) ⟨S.1, S.rd 806 3 (4 * w + 2 * b + 1) rfl (by decide) (by show 4 * w + 2 * b + 1 < 400; omega) ⟨fun f => next (by omega) fun q => f ((lg_cmp_eq _ _).mpr q.2), fun f => k1 (key a b (by omega) (by omega) ⟨(lg_cmp_eq _ _).mp e, (lg_cmp_eq _ _).mp f⟩)⟩⟩⟩⟩⟩⟩
theorem r_leader {post : Int32 → HS → Prop} {ld : Nat → Nat} {n : Nat} (S : RS vm R B h) (N : NR R h ld) (hn : n < 19520) (kk : post (nI (ld n)) h) : wp_Mod_leader Z post h vm (nI n) := by
  obtain ⟨up, U, F, O⟩ := N
  refine lp_inv (fun q => ∃ m, m < 19520 ∧ q = (nI m, h) ∧ ld m = ld n) (fun q => q.1.toNatClampNeg) ?_ _ ⟨n, hn, rfl, rfl⟩
  rintro q K ⟨m, hm, rfl, e⟩ hK
  obtain ⟨f1, f2, f3, f4, f5⟩ := F m hm
  have f2' : up m < 19520 := f2
  unfold wb_Mod_leader_2
  dsimp only
  refine ⟨S.1, S.rd 825 1 m rfl (by decide) hm ?_⟩
  rw [jr_cl (by omega), U m hm, nI_eq (by omega) (by omega)]
  refine ⟨fun z => by rw [← e, f4 z] at kk; exact kk, fun z => ⟨S.1, S.rd 825 1 m rfl (by decide) hm ?_⟩⟩
  rintro y rfl
  rw [U m hm]
  refine hK _ ⟨up m, f2', rfl, by rw [f3]; exact e⟩ ?_
  dsimp only
  rw [jr_cl (by omega), jr_cl (by omega)]; omega
end REF
