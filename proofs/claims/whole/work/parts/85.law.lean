/-! BOTH SIDES -/
def SI (Z : Nat → Nat) (vx vm vo : Nat) (h : HS) : Prop := ∃ A R B d ch, KS Z vx A B h d ch ∧ KR vm R B h d ch ∧ gT h vo = 3 ∧ gN h vo = 1 ∧ B vo = (21, 0)
def POw (Z : Nat → Nat) (vm vo : Nat) (WM : (Int32 → HS → Prop) → HS → Prop) (K : HS → Prop) (CMP : Int32 → HS → Prop) (r1 : Int32) (h2 : HS) : Prop := gT h2 vm = 24 ∧ WM (fun r3 h4 => gT h4 vm = 24 ∧ (wp_Mod_thrown Z (fun r6 h7 => (r6 = r1 → ((¬ r1 = 0 → (K h7)) ∧ (r1 = 0 → (gT h7 vo = 3 ∧ vp_in (0 : Int32) (gN h7 vo) ∧ CMP r3 h7)))) ∧ (¬ r6 = r1 → False)) h4 vm)) h2
section LAW
variable {Z : Nat → Nat} {vx vm vo : Nat} {h h' : HS} {A : Nat → Nat → Nat} {R : Nat → Nat} {B B' : Nat → Nat × Nat} {d : DS} {ch : Nat → Prop}
theorem KR.go (K : KR vm R B h d ch) (m : ∀ a, (B a).1 = 20 → gT h a ≠ 0 → ce h h' a ∧ B' a = B a) : KR vm R B' h' d ch := by
  obtain ⟨⟨S1, S2, S3⟩, D, n, I, O⟩ := K
  have cv := m vm (by rw [S2]) (by rw [S1]; decide)
  have cr : ∀ f, rK f ≠ 0 → ce h h' (R f) ∧ B' (R f) = B (R f) := fun f hf => by
    obtain ⟨q1, q2, q3, q4⟩ := S3 f hf
    exact m _ (by rw [q2]) (by rw [q3]; exact hf)
  refine ⟨⟨by rw [cv.1.T]; exact S1, by rw [cv.2]; exact S2, fun f hf => ?_⟩, D.frame (fun f _ _ => by rw [cv.1.I]) fun f _ _ hf => ⟨(cr f hf).1.A, (cr f hf).1.L⟩, by rw [cv.1.I]; exact n, fun k hk => by rw [(cr 830 (by decide)).1.A]; exact I k hk, ?_⟩
  · obtain ⟨q1, q2, q3, q4⟩ := S3 f hf
    obtain ⟨c1, c2⟩ := cr f hf
    exact ⟨by rw [cv.1.R]; exact q1, by rw [c2]; exact q2, by rw [c1.T]; exact q3, by rw [c1.N]; exact q4⟩
  · rw [cv.1.I]
    rcases O with o | ⟨o1, ld, ⟨up, U, F⟩, o3, o4⟩
    · exact Or.inl o
    · refine Or.inr ⟨o1, ld, ⟨up, fun n hn => by rw [(cr 825 (by decide)).1.A]; exact U n hn, F⟩, o3, ?_⟩
      unfold NE at o4 ⊢
      rw [cv.1.I, (cr 827 (by decide)).1.A, (cr 826 (by decide)).1.A]; exact o4
/-- the answer's array is written -/
theorem vo_put {v : Int64} {d2 : DS} {ch2 : Nat → Prop} (K : KS Z vx A B h d2 ch2) (Q : KR vm R B h d ch) (t : gT h vo = 3) (b : B vo = (21, 0)) (e : h' = sL h vo 0 v) : KS Z vx A B h' d2 ch2 ∧ KR vm R B h' d ch ∧ gT h' vo = gT h vo ∧ gN h' vo = gN h vo ∧ gL h' vo 0 = v := by
  have c : ∀ a, (B a).1 ≠ 21 → ce h h' a := fun a ha => by rw [e]; exact ce_sL fun w => ha (by rw [w, b])
  have bx : B vx = (0, 0) := by obtain ⟨-, -, ⟨pm, -, C⟩, -⟩ := K; exact C.bx
  refine ⟨K.go (c vx (by rw [bx]; decide)) bx (mv.of fun a h1 h2 => c a (by omega)), Q.go fun a ha _ => ⟨c a (by omega), rfl⟩, by rw [e, gT_sL], by rw [e, gN_sL], by rw [e, gL_sL, if_pos ⟨rfl, rfl⟩]⟩
theorem law_op {W : Prop} {WM : (Int32 → HS → Prop) → HS → Prop} {CMP : Int32 → HS → Prop} {PN : Int32 → HS → Prop} {o : OUT} {al EX : Nat → Prop} (val : Int32 → Int64)
    (K : KS Z vx A B h d ch) (Q : KR vm R B h d ch) (t : gT h vo = 3) (n1 : gN h vo = 1) (b : B vo = (21, 0))
    (HN : (∀ n, o = (n, 0, (d, ch)) → al n → EX n) → (∀ r s h' A' B', o = (0, r, s) → KS Z vx A' B' h' s.1 s.2 → mv 20 100 A A' B B' h h' → PN r h') → W)
    (HM : ∀ (post : Int32 → HS → Prop) (h0 : HS) (B0 : Nat → Nat × Nat), KR vm R B0 h0 d ch → (∀ n r s h', o = (n, r, s) → KR vm R B0 h' s.1 s.2 → gI h' 800 vm = nI n → sm20 B0 h0 h' → post r h') → WM post h0)
    (hal : ∀ n, al n → n = 1 ∨ n = 2 ∨ n = 3)
    (hE : ∀ n, al n → POw Z vm vo WM (SI Z vx vm vo) CMP (nI n) h → EX n)
    (hP : ∀ r h2, gT h2 vo = 3 → gN h2 vo = 1 → (∀ h7, h7 = sL h2 vo 0 (val r) → POw Z vm vo WM (SI Z vx vm vo) CMP 0 h7) → PN r h2)
    (hC : ∀ r3 h7, gL h7 vo 0 = val r3 → SI Z vx vm vo h7 → CMP r3 h7) : W := by
  have bxe : ∀ {A : Nat → Nat → Nat} {B : Nat → Nat × Nat} {h : HS} {d : DS} {ch : Nat → Prop}, KS Z vx A B h d ch → B vx = (0, 0) := fun K => by obtain ⟨-, -, ⟨pm, -, C⟩, -⟩ := K; exact C.bx
  refine HN (fun n eo hn => hE n hn ⟨Q.1.1, HM _ h B Q fun n' r' s' h4 eo' Q4 t4 s4 => ?_⟩) fun r s h2 A2 B2 eo K2 m2 => ?_
  · rw [eo] at eo'
    obtain ⟨rfl, rfl, rfl⟩ : n = n' ∧ (0 : Int32) = r' ∧ (d, ch) = s' := by
      obtain ⟨e1, e2⟩ := Prod.mk.inj eo'
      obtain ⟨e3, e4⟩ := Prod.mk.inj e2
      exact ⟨e1, e3, e4⟩
    have nz := hal n hn
    refine ⟨Q4.1.1, Q4.1.1, fun _ => ⟨fun _ => ⟨A, R, B, d, ch, K.go (s4 vx (by show (B vx).1 ≠ 20; rw [bxe K]; decide)) (bxe K) (mv.of fun a h1 h2 => s4 a (by show (B a).1 ≠ 20; omega)), Q4, ?_, ?_, b⟩, fun w => ?_⟩, fun w => w t4⟩
    · rw [(s4 vo (by show (B vo).1 ≠ 20; rw [b]; decide)).T]; exact t
    · rw [(s4 vo (by show (B vo).1 ≠ 20; rw [b]; decide)).N]; exact n1
    · exfalso; rw [nI_z (by omega)] at w; omega
  · obtain ⟨cv, bv⟩ := m2.1 vo (by rw [b]; show 20 ≤ 21; omega) (by rw [b]; show 21 ≤ 100; omega) (by rw [t]; decide)
    have Q2 : KR vm R B2 h2 d ch := Q.go fun a ha hl => m2.1 a (by omega) (by omega) hl
    have t2 : gT h2 vo = 3 := by rw [cv.T]; exact t
    have n2 : gN h2 vo = 1 := by rw [cv.N]; exact n1
    have b2 : B2 vo = (21, 0) := by rw [bv]; exact b
    refine hP r h2 t2 n2 fun h3 e3 => ?_
    obtain ⟨K3, Q3, t3, n3, l3⟩ := vo_put K2 Q2 t2 b2 e3
    refine ⟨Q3.1.1, HM _ h3 B2 Q3 fun n' r' s' h4 eo' Q4 t4 s4 => ?_⟩
    rw [eo] at eo'
    obtain ⟨rfl, rfl, rfl⟩ : 0 = n' ∧ r = r' ∧ s = s' := by
      obtain ⟨e1, e2⟩ := Prod.mk.inj eo'
      obtain ⟨e3, e4⟩ := Prod.mk.inj e2
      exact ⟨e1, e3, e4⟩
    have c4 := s4 vo (by show (B2 vo).1 ≠ 20; rw [b2]; decide)
    have SI4 : SI Z vx vm vo h4 := ⟨A2, R, B2, s.1, s.2, K3.go (s4 vx (by show (B2 vx).1 ≠ 20; rw [bxe K2]; decide)) (bxe K2) (mv.of fun a h1 h2 => s4 a (by show (B2 a).1 ≠ 20; omega)), Q4, by rw [c4.T, t3]; exact t2, by rw [c4.N, n3]; exact n2, b2⟩
    refine ⟨Q4.1.1, Q4.1.1, fun _ => ⟨fun _ => SI4, fun _ => ⟨by rw [c4.T, t3]; exact t2, by rw [c4.N, n3, n2]; exact pk_in 0 1 (by omega), hC r h4 (by rw [c4.L]; exact l3) SI4⟩⟩, fun w => w t4⟩
/-- an int is answered -/
def CMi (vo : Nat) (K : HS → Prop) (r3 : Int32) (h7 : HS) : Prop := ((lg_cmp (gL h7 vo (0 : Int32).toNatClampNeg) (r3.toInt64)) = 0 → (K h7)) ∧ (¬ (lg_cmp (gL h7 vo (0 : Int32).toNatClampNeg) (r3.toInt64)) = 0 → (False))
def CMb (vo : Nat) (K : HS → Prop) (r3 : Int32) (h7 : HS) : Prop := (r3 = 0 → (((lg_cmp (gL h7 vo (0 : Int32).toNatClampNeg) (0 : Int64)) = 0 → (K h7)) ∧ (¬ (lg_cmp (gL h7 vo (0 : Int32).toNatClampNeg) (0 : Int64)) = 0 → (False)))) ∧ (¬ r3 = 0 → (((lg_cmp (gL h7 vo (0 : Int32).toNatClampNeg) (1 : Int64)) = 0 → (K h7)) ∧ (¬ (lg_cmp (gL h7 vo (0 : Int32).toNatClampNeg) (1 : Int64)) = 0 → (False))))
theorem CMi_ok {K : HS → Prop} (r3 : Int32) (h7 : HS) (e : gL h7 vo 0 = r3.toInt64) (k : K h7) : CMi vo K r3 h7 := by
  have e' : gL h7 vo (0 : Int32).toNatClampNeg = r3.toInt64 := e
  exact ⟨fun _ => k, fun w => w ((lg_cmp_eq _ _).mpr e')⟩
theorem CMb_ok {K : HS → Prop} (r3 : Int32) (h7 : HS) (e : gL h7 vo 0 = if r3 = 0 then 0 else 1) (k : K h7) : CMb vo K r3 h7 := by
  refine ⟨fun z => ⟨fun _ => k, fun w => w ((lg_cmp_eq _ _).mpr ?_)⟩, fun z => ⟨fun _ => k, fun w => w ((lg_cmp_eq _ _).mpr ?_)⟩⟩
  · show gL h7 vo 0 = 0
    rw [e, if_pos z]
  · show gL h7 vo 0 = 1
    rw [e, if_neg z]
theorem put_i {WM : (Int32 → HS → Prop) → HS → Prop} {K : HS → Prop} {CMP : Int32 → HS → Prop} (r : Int32) (h2 : HS) (t : gT h2 vo = 3) (n : gN h2 vo = 1) (k : ∀ h7, h7 = sL h2 vo 0 r.toInt64 → POw Z vm vo WM K CMP 0 h7) : ∃ a5, some vo = some a5 ∧ gT h2 a5 = 3 ∧ vp_in (0 : Int32) (gN h2 a5) ∧ (∀ h7, h7 = sL h2 a5 (0 : Int32).toNatClampNeg (r.toInt64) → POw Z vm vo WM K CMP 0 h7) :=
  ⟨vo, rfl, t, by rw [n]; exact pk_in 0 1 (by omega), k⟩
theorem put_b {WM : (Int32 → HS → Prop) → HS → Prop} {K : HS → Prop} {CMP : Int32 → HS → Prop} (r : Int32) (h2 : HS) (t : gT h2 vo = 3) (n : gN h2 vo = 1) (k : ∀ h7, h7 = sL h2 vo 0 (if r = 0 then 0 else 1) → POw Z vm vo WM K CMP 0 h7) : (r = 0 → (∃ a6, some vo = some a6 ∧ gT h2 a6 = 3 ∧ vp_in (0 : Int32) (gN h2 a6) ∧ (∀ h8, h8 = sL h2 a6 (0 : Int32).toNatClampNeg (0 : Int64) → POw Z vm vo WM K CMP 0 h8))) ∧ (¬ r = 0 → (∃ a9, some vo = some a9 ∧ gT h2 a9 = 3 ∧ vp_in (0 : Int32) (gN h2 a9) ∧ (∀ h11, h11 = sL h2 a9 (0 : Int32).toNatClampNeg (1 : Int64) → POw Z vm vo WM K CMP 0 h11))) := by
  refine ⟨fun z => ⟨vo, rfl, t, by rw [n]; exact pk_in 0 1 (by omega), fun h8 e8 => k h8 ?_⟩, fun z => ⟨vo, rfl, t, by rw [n]; exact pk_in 0 1 (by omega), fun h8 e8 => k h8 ?_⟩⟩
  · rw [if_pos z]; exact e8
  · rw [if_neg z]; exact e8
theorem al3 {PO : Int32 → HS → Prop} {h : HS} (n : Nat) (hn : n = 1 ∨ n = 2 ∨ n = 3) (p : PO (nI n) h) : (n = 1 ∧ PO (1 : Int32) h) ∨ (n = 2 ∧ PO (2 : Int32) h) ∨ (n = 3 ∧ PO (3 : Int32) h) := by
  rcases hn with rfl | rfl | rfl
  · exact Or.inl ⟨rfl, p⟩
  · exact Or.inr (Or.inl ⟨rfl, p⟩)
  · exact Or.inr (Or.inr ⟨rfl, p⟩)
theorem al2 {PO : Int32 → HS → Prop} {h : HS} (n : Nat) (hn : n = 1 ∨ n = 2) (p : PO (nI n) h) : (n = 1 ∧ PO (1 : Int32) h) ∨ (n = 2 ∧ PO (2 : Int32) h) := by
  rcases hn with rfl | rfl
  · exact Or.inl ⟨rfl, p⟩
  · exact Or.inr ⟨rfl, p⟩
theorem w_0 {w : Nat → Int32} (H : SI Z vx vm vo h) : wl_0 Z w vx vm vo (SI Z vx vm vo) h := by
  obtain ⟨A, R, B, d, ch, K, Q, t, n, b⟩ := H
  have x : gT h vx = 16 := by obtain ⟨-, -, ⟨pm, -, C⟩, -⟩ := K; exact C.1.1.x
  refine ⟨vx, rfl, x, ?_⟩
  exact law_op (WM := fun post h => wp_Mod_sheet Z post h vm (w 1) (w 2)) (CMP := CMi vo (SI Z vx vm vo)) (o := o_sheet (d, ch) (w 1) (w 2)) (al := fun n => n = 1 ∨ n = 2) (fun r => r.toInt64) K Q t n b (fun k0 k1 => k_sheet K k0 k1) (fun post h0 B0 Q0 kk => r_sheet K.1 Q0 kk) (fun n hn => by omega) (fun n hn p => al2 n hn p) put_i CMi_ok
theorem w_1 {w : Nat → Int32} (H : SI Z vx vm vo h) : wl_1 Z w vx vm vo (SI Z vx vm vo) h := by
  obtain ⟨A, R, B, d, ch, K, Q, t, n, b⟩ := H
  have x : gT h vx = 16 := by obtain ⟨-, -, ⟨pm, -, C⟩, -⟩ := K; exact C.1.1.x
  unfold wl_1
  generalize ((((w 2).toInt64) <<< ((32 : Int32).toInt64 &&& 63)) ||| (((w 3).toInt64) &&& (4294967295 : Int64))) = a1
  generalize ((((w 4).toInt64) <<< ((32 : Int32).toInt64 &&& 63)) ||| (((w 5).toInt64) &&& (4294967295 : Int64))) = a2
  generalize ((((w 6).toInt64) <<< ((32 : Int32).toInt64 &&& 63)) ||| (((w 7).toInt64) &&& (4294967295 : Int64))) = a3
  generalize ((((w 8).toInt64) <<< ((32 : Int32).toInt64 &&& 63)) ||| (((w 9).toInt64) &&& (4294967295 : Int64))) = a4
  refine ⟨vx, rfl, x, ?_⟩
  exact law_op (WM := fun post h => wp_Mod_wire Z post h vm (w 1) a1 a2 a3 a4) (CMP := CMi vo (SI Z vx vm vo)) (o := o_wire (d, ch) (w 1) a1 a2 a3 a4) (al := fun n => n = 1 ∨ n = 2 ∨ n = 3) (fun r => r.toInt64) K Q t n b (fun k0 k1 => k_wire K k0 k1) (fun post h0 B0 Q0 kk => r_wire K.1 (K.2.1.1 _ (Nat.le_refl _)) Q0 kk) (fun n hn => hn) (fun n hn p => al3 n hn p) put_i CMi_ok
theorem w_2 {w : Nat → Int32} (H : SI Z vx vm vo h) : wl_2 Z w vx vm vo (SI Z vx vm vo) h := by
  obtain ⟨A, R, B, d, ch, K, Q, t, n, b⟩ := H
  have x : gT h vx = 16 := by obtain ⟨-, -, ⟨pm, -, C⟩, -⟩ := K; exact C.1.1.x
  unfold wl_2
  generalize ((((w 2).toInt64) <<< ((32 : Int32).toInt64 &&& 63)) ||| (((w 3).toInt64) &&& (4294967295 : Int64))) = a1
  generalize ((((w 4).toInt64) <<< ((32 : Int32).toInt64 &&& 63)) ||| (((w 5).toInt64) &&& (4294967295 : Int64))) = a2
  refine ⟨vx, rfl, x, ?_⟩
  exact law_op (WM := fun post h => wp_Mod_junction Z post h vm (w 1) a1 a2) (CMP := CMb vo (SI Z vx vm vo)) (o := o_junction (d, ch) (w 1) a1 a2) (al := fun n => n = 1 ∨ n = 2 ∨ n = 3) (fun r => if r = 0 then 0 else 1) K Q t n b (fun k0 k1 => k_junction K k0 fun r s h' A' B' eo _ K' m' => k1 r s h' A' B' eo K' m') (fun post h0 B0 Q0 kk => r_junction K.1 Q0 kk) (fun n hn => hn) (fun n hn p => al3 n hn p) put_b CMb_ok
theorem w_3 {w : Nat → Int32} (H : SI Z vx vm vo h) : wl_3 Z w vx vm vo (SI Z vx vm vo) h := by
  obtain ⟨A, R, B, d, ch, K, Q, t, n, b⟩ := H
  have x : gT h vx = 16 := by obtain ⟨-, -, ⟨pm, -, C⟩, -⟩ := K; exact C.1.1.x
  unfold wl_3
  generalize ((((w 2).toInt64) <<< ((32 : Int32).toInt64 &&& 63)) ||| (((w 3).toInt64) &&& (4294967295 : Int64))) = a1
  generalize ((((w 4).toInt64) <<< ((32 : Int32).toInt64 &&& 63)) ||| (((w 5).toInt64) &&& (4294967295 : Int64))) = a2
  refine ⟨vx, rfl, x, ?_⟩
  exact law_op (WM := fun post h => wp_Mod_label Z post h vm (w 1) a1 a2 (w 6)) (CMP := CMi vo (SI Z vx vm vo)) (o := o_label (d, ch) (w 1) a1 a2 (w 6)) (al := fun n => n = 1 ∨ n = 2 ∨ n = 3) (fun r => r.toInt64) K Q t n b (fun k0 k1 => k_label K k0 k1) (fun post h0 B0 Q0 kk => r_label K.1 Q0 kk) (fun n hn => hn) (fun n hn p => al3 n hn p) put_i CMi_ok
theorem w_4 {w : Nat → Int32} (H : SI Z vx vm vo h) : wl_4 Z w vx vm vo (SI Z vx vm vo) h := by
  obtain ⟨A, R, B, d, ch, K, Q, t, n, b⟩ := H
  have x : gT h vx = 16 := by obtain ⟨-, -, ⟨pm, -, C⟩, -⟩ := K; exact C.1.1.x
  unfold wl_4
  generalize ((((w 2).toInt64) <<< ((32 : Int32).toInt64 &&& 63)) ||| (((w 3).toInt64) &&& (4294967295 : Int64))) = a1
  generalize ((((w 4).toInt64) <<< ((32 : Int32).toInt64 &&& 63)) ||| (((w 5).toInt64) &&& (4294967295 : Int64))) = a2
  refine ⟨vx, rfl, x, ?_⟩
  exact law_op (WM := fun post h => wp_Mod_pin Z post h vm (w 1) a1 a2 (w 6)) (CMP := CMi vo (SI Z vx vm vo)) (o := o_pin (d, ch) (w 1) a1 a2 (w 6)) (al := fun n => n = 1 ∨ n = 2 ∨ n = 3) (fun r => r.toInt64) K Q t n b (fun k0 k1 => k_pin K k0 k1) (fun post h0 B0 Q0 kk => r_pin K.1 (K.2.1.2 _ (Nat.le_refl _)) Q0 kk) (fun n hn => hn) (fun n hn p => al3 n hn p) put_i CMi_ok
theorem w_5 {w : Nat → Int32} (H : SI Z vx vm vo h) : wl_5 Z w vx vm vo (SI Z vx vm vo) h := by
  obtain ⟨A, R, B, d, ch, K, Q, t, n, b⟩ := H
  have x : gT h vx = 16 := by obtain ⟨-, -, ⟨pm, -, C⟩, -⟩ := K; exact C.1.1.x
  refine ⟨vx, rfl, x, ?_⟩
  exact law_op (WM := fun post h => wp_Mod_port Z post h vm (w 1) (w 2) (w 3)) (CMP := CMb vo (SI Z vx vm vo)) (o := o_port (d, ch) (w 1) (w 2) (w 3)) (al := fun n => n = 1 ∨ n = 2 ∨ n = 3) (fun r => if r = 0 then 0 else 1) K Q t n b (fun k0 k1 => k_port K k0 fun r s h' A' B' eo _ K' m' => k1 r s h' A' B' eo K' m') (fun post h0 B0 Q0 kk => r_port K.1 Q0 kk) (fun n hn => hn) (fun n hn p => al3 n hn p) put_b CMb_ok
theorem w_6 {w : Nat → Int32} (H : SI Z vx vm vo h) : wl_6 Z w vx vm vo (SI Z vx vm vo) h := by
  obtain ⟨A, R, B, d, ch, K, Q, t, n, b⟩ := H
  have x : gT h vx = 16 := by obtain ⟨-, -, ⟨pm, -, C⟩, -⟩ := K; exact C.1.1.x
  refine ⟨vx, rfl, x, ?_⟩
  exact law_op (WM := fun post h => wp_Mod_bus Z post h vm (w 1) (w 2) (w 3) (w 4)) (CMP := CMb vo (SI Z vx vm vo)) (o := o_bus (d, ch) (w 1) (w 2) (w 3) (w 4)) (al := fun n => n = 1 ∨ n = 2 ∨ n = 3) (fun r => if r = 0 then 0 else 1) K Q t n b (fun k0 k1 => k_bus K k0 fun r s h' A' B' eo _ K' m' => k1 r s h' A' B' eo K' m') (fun post h0 B0 Q0 kk => r_bus K.1 Q0 kk) (fun n hn => hn) (fun n hn p => al3 n hn p) put_b CMb_ok
theorem w_9 {w : Nat → Int32} (H : SI Z vx vm vo h) : wl_9 Z w vx vm vo (SI Z vx vm vo) h := by
  obtain ⟨A, R, B, d, ch, K, Q, t, n, b⟩ := H
  have x : gT h vx = 16 := by obtain ⟨-, -, ⟨pm, -, C⟩, -⟩ := K; exact C.1.1.x
  refine ⟨vx, rfl, x, ?_⟩
  exact law_op (WM := fun post h => wp_Mod_rank Z post h vm (w 1) (w 2)) (CMP := CMb vo (SI Z vx vm vo)) (o := o_rank (d, ch) (w 1) (w 2)) (al := fun n => n = 1) (EX := fun _ => POw Z vm vo (fun post h => wp_Mod_rank Z post h vm (w 1) (w 2)) (SI Z vx vm vo) (CMb vo (SI Z vx vm vo)) 1 h) (fun r => if r = 0 then 0 else 1) K Q t n b (fun k0 k1 => k_rank K (fun eo => ⟨rfl, k0 1 eo rfl⟩) fun r s h' A' B' eo _ K' m' => k1 r s h' A' B' eo K' m') (fun post h0 B0 Q0 kk => r_rank K.1 Q0 kk) (fun n hn => by omega) (fun n hn p => by subst hn; exact p) put_b CMb_ok
theorem w_11 {w : Nat → Int32} (H : SI Z vx vm vo h) : wl_11 Z w vx vm vo (SI Z vx vm vo) h := by
  obtain ⟨A, R, B, d, ch, K, Q, t, n, b⟩ := H
  have x : gT h vx = 16 := by obtain ⟨-, -, ⟨pm, -, C⟩, -⟩ := K; exact C.1.1.x
  refine ⟨vx, rfl, x, ?_⟩
  exact law_op (WM := fun post h => wp_Mod_drop Z post h vm (w 1)) (CMP := CMi vo (SI Z vx vm vo)) (o := o_drop (d, ch) (w 1)) (al := fun n => n = 1) (EX := fun _ => POw Z vm vo (fun post h => wp_Mod_drop Z post h vm (w 1)) (SI Z vx vm vo) (CMi vo (SI Z vx vm vo)) 1 h) (fun r => r.toInt64) K Q t n b (fun k0 k1 => k_drop K (fun eo => ⟨rfl, k0 1 eo rfl⟩) k1) (fun post h0 B0 Q0 kk => r_drop K.1 Q0 kk) (fun n hn => by omega) (fun n hn p => by subst hn; exact p) put_i CMi_ok
theorem w_12 {w : Nat → Int32} (H : SI Z vx vm vo h) : wl_12 Z w vx vm vo (SI Z vx vm vo) h := by
  obtain ⟨A, R, B, d, ch, K, Q, t, n, b⟩ := H
  have x : gT h vx = 16 := by obtain ⟨-, -, ⟨pm, -, C⟩, -⟩ := K; exact C.1.1.x
  refine ⟨vx, rfl, x, ?_⟩
  exact law_op (WM := fun post h => wp_Mod_open Z post h vm (w 1)) (CMP := CMb vo (SI Z vx vm vo)) (o := o_open (d, ch) (w 1)) (al := fun n => n = 1) (EX := fun _ => POw Z vm vo (fun post h => wp_Mod_open Z post h vm (w 1)) (SI Z vx vm vo) (CMb vo (SI Z vx vm vo)) 1 h) (fun r => if r = 0 then 0 else 1) K Q t n b (fun k0 k1 => k_open K (fun eo => ⟨rfl, k0 1 eo rfl⟩) fun r s h' A' B' eo _ K' m' => k1 r s h' A' B' eo K' m') (fun post h0 B0 Q0 kk => r_open K.1 Q0 kk) (fun n hn => by omega) (fun n hn p => by subst hn; exact p) put_b CMb_ok
theorem w_8 {w : Nat → Int32} (H : SI Z vx vm vo h) : wl_8 Z w vx vm vo (SI Z vx vm vo) h := by
  obtain ⟨A, R, B, d, ch, K, Q, t, n, b⟩ := H
  have x : gT h vx = 16 := by obtain ⟨-, -, ⟨pm, -, C⟩, -⟩ := K; exact C.1.1.x
  have hd := K.1
  have hS := hd.1.1
  have hP := hd.1.2.2.2.2.1
  refine ⟨vx, rfl, x, ?_⟩
  by_cases ex : ∃ p t, p < nP d ∧ w 1 = nI p ∧ t < nS d ∧ bas d t = pSh d p ∧ w 2 = nI (cp d t)
  · obtain ⟨p, u, e1, e2, e3, e4, e5⟩ := ex
    have uq : ∀ p' u', p' < nP d → w 1 = nI p' → u' < nS d → bas d u' = pSh d p' → w 2 = nI (cp d u') → 16 * p' + u' = 16 * p + u := by
      intro p' u' f1 f2 f3 f4 f5
      rw [e2, nI_eq (by omega) (by omega)] at f2
      subst f2
      have a1 := cp_lt hd e3
      have a2 := cp_lt hd f3
      rw [e5, nI_eq (by omega) (by omega)] at f5
      rw [cp_inj (by rw [f4, e4]) f5.symm]
    refine law_op (WM := fun post h => wp_Mod_netOf Z post h vm (w 1) (w 2)) (CMP := CMi vo (SI Z vx vm vo)) (o := (0, nI (nn d (16 * p + u)), (d, ch))) (al := fun n => n = 1) (EX := fun _ => POw Z vm vo (fun post h => wp_Mod_netOf Z post h vm (w 1) (w 2)) (SI Z vx vm vo) (CMi vo (SI Z vx vm vo)) 1 h) (fun r => r.toInt64) K Q t n b (fun k0 k1 => k_netOf K (fun no => absurd ⟨p, u, e1, e2, e3, e4, e5⟩ no) fun p' u' f1 f2 f3 f4 f5 => ?_) (fun post h0 B0 Q0 kk => r_netOf hd Q0 (fun no => absurd ⟨p, u, e1, e2, e3, e4, e5⟩ no) fun p' u' f1 f2 f3 f4 f5 h' K' t' s' => ?_) (fun n hn => by omega) (fun n hn p => by subst hn; exact p) put_i CMi_ok
    · rw [uq p' u' f1 f2 f3 f4 f5]
      exact k1 _ _ h A B rfl K mv.rf
    · rw [uq p' u' f1 f2 f3 f4 f5]
      exact kk 0 _ _ h' rfl K' t' s'
  · refine law_op (WM := fun post h => wp_Mod_netOf Z post h vm (w 1) (w 2)) (CMP := CMi vo (SI Z vx vm vo)) (o := (1, 0, (d, ch))) (al := fun n => n = 1) (EX := fun _ => POw Z vm vo (fun post h => wp_Mod_netOf Z post h vm (w 1) (w 2)) (SI Z vx vm vo) (CMi vo (SI Z vx vm vo)) 1 h) (fun r => r.toInt64) K Q t n b (fun k0 k1 => k_netOf K (fun _ => ⟨rfl, k0 1 rfl rfl⟩) fun p' u' f1 f2 f3 f4 f5 => absurd ⟨p', u', f1, f2, f3, f4, f5⟩ ex) (fun post h0 B0 Q0 kk => r_netOf hd Q0 (fun _ h' K' t' s' => kk 1 _ _ h' rfl K' t' s') fun p' u' f1 f2 f3 f4 f5 => absurd ⟨p', u', f1, f2, f3, f4, f5⟩ ex) (fun n hn => by omega) (fun n hn p => by subst hn; exact p) put_i CMi_ok
theorem w_10 {w : Nat → Int32} (H : SI Z vx vm vo h) : wl_10 Z w vx vm vo (SI Z vx vm vo) h := by
  obtain ⟨A, R, B, d, ch, K, Q, t, n, b⟩ := H
  have x : gT h vx = 16 := by obtain ⟨-, -, ⟨pm, -, C⟩, -⟩ := K; exact C.1.1.x
  have hd := K.1
  have c9 : cnt d ≤ 960 := cn_up _ _
  refine ⟨vx, rfl, x, ?_⟩
  by_cases ex : ∃ n, n < cnt d ∧ w 1 = nI n
  · obtain ⟨m, e1, e2⟩ := ex
    have uq : ∀ m' r, m' < cnt d → w 1 = nI m' → NameR d m' r → r = @Classical.epsilon Int32 ⟨0⟩ (NameR d m) := by
      intro m' r f1 f2 f3
      rw [e2, nI_eq (by omega) (by omega)] at f2
      subst f2
      exact f3.uniq (@Classical.epsilon_spec Int32 (NameR d m) ⟨r, f3⟩)
    refine law_op (WM := fun post h => wp_Mod_name Z post h vm (w 1)) (CMP := CMi vo (SI Z vx vm vo)) (o := (0, @Classical.epsilon Int32 ⟨0⟩ (NameR d m), (d, ch))) (al := fun n => n = 1) (EX := fun _ => POw Z vm vo (fun post h => wp_Mod_name Z post h vm (w 1)) (SI Z vx vm vo) (CMi vo (SI Z vx vm vo)) 1 h) (fun r => r.toInt64) K Q t n b (fun k0 k1 => k_name K (fun no => absurd ⟨m, e1, e2⟩ no) fun m' r h' f1 f2 f3 K' m2 => ?_) (fun post h0 B0 Q0 kk => r_name hd Q0 (fun no => absurd ⟨m, e1, e2⟩ no) fun m' r h' f1 f2 f3 K' t' s' => ?_) (fun n hn => by omega) (fun n hn p => by subst hn; exact p) put_i CMi_ok
    · rw [uq m' r f1 f2 f3]
      exact k1 _ _ h' A B rfl K' m2
    · rw [uq m' r f1 f2 f3]
      exact kk 0 _ _ h' rfl K' t' s'
  · refine law_op (WM := fun post h => wp_Mod_name Z post h vm (w 1)) (CMP := CMi vo (SI Z vx vm vo)) (o := (1, 0, (d, ch))) (al := fun n => n = 1) (EX := fun _ => POw Z vm vo (fun post h => wp_Mod_name Z post h vm (w 1)) (SI Z vx vm vo) (CMi vo (SI Z vx vm vo)) 1 h) (fun r => r.toInt64) K Q t n b (fun k0 k1 => k_name K (fun _ => ⟨rfl, k0 1 rfl rfl⟩) fun m' r h' f1 f2 => absurd ⟨m', f1, f2⟩ ex) (fun post h0 B0 Q0 kk => r_name hd Q0 (fun _ h' K' t' s' => kk 1 _ _ h' rfl K' t' s') fun m' r h' f1 f2 => absurd ⟨m', f1, f2⟩ ex) (fun n hn => by omega) (fun n hn p => by subst hn; exact p) put_i CMi_ok
/-- a question that throws nothing -/
theorem law_q {WM : HS → Prop} (K : KS Z vx A B h d ch) (Q : KR vm R B h d ch) (t : gT h vo = 3) (n1 : gN h vo = 1) (b : B vo = (21, 0)) (m : mv 20 100 A A B B h h') (K' : KS Z vx A B h' d ch) (HM : KR vm R B h' d ch → (∀ h4, KR vm R B h4 d ch → sm20 B h' h4 → SI Z vx vm vo h4) → WM h') : WM h' := by
  have bx : B vx = (0, 0) := by obtain ⟨-, -, ⟨pm, -, C⟩, -⟩ := K; exact C.bx
  obtain ⟨cv, -⟩ := m.1 vo (by rw [b]; show 20 ≤ 21; omega) (by rw [b]; show 21 ≤ 100; omega) (by rw [t]; decide)
  refine HM (Q.go fun a ha hl => m.1 a (by omega) (by omega) hl) fun h4 Q4 s4 => ?_
  have c4 := s4 vo (by show (B vo).1 ≠ 20; rw [b]; decide)
  exact ⟨A, R, B, d, ch, K'.go (s4 vx (by show (B vx).1 ≠ 20; rw [bx]; decide)) bx (mv.of fun a h1 h2 => s4 a (by show (B a).1 ≠ 20; omega)), Q4, by rw [c4.T, cv.T]; exact t, by rw [c4.N, cv.N]; exact n1, b⟩
theorem w_7 {w : Nat → Int32} (H : SI Z vx vm vo h) : wl_7 Z w vx vm vo (SI Z vx vm vo) h := by
  obtain ⟨A, R, B, d, ch, K, Q, t, n, b⟩ := H
  have x : gT h vx = 16 := by obtain ⟨-, -, ⟨pm, -, C⟩, -⟩ := K; exact C.1.1.x
  refine ⟨x, k_nets K ?_⟩
  exact law_q (WM := fun h2 => gT h2 vm = 24 ∧ (wp_Mod_nets Z (fun r4 h5 => (nI (cnt d) = r4 → (SI Z vx vm vo h5)) ∧ (¬ nI (cnt d) = r4 → (False))) h2 vm)) K Q t n b mv.rf K fun Q2 kk => ⟨Q2.1.1, r_nets Q2 fun h5 Q5 s5 => ⟨fun _ => kk h5 Q5 s5, fun w => w rfl⟩⟩
theorem w_13 {w : Nat → Int32} (H : SI Z vx vm vo h) : wl_13 Z w vx vm vo (SI Z vx vm vo) h := by
  obtain ⟨A, R, B, d, ch, K, Q, t, n, b⟩ := H
  have x : gT h vx = 16 := by obtain ⟨-, -, ⟨pm, -, C⟩, -⟩ := K; exact C.1.1.x
  refine ⟨x, k_told K fun r h2 kr K2 m2 => ?_⟩
  exact law_q (WM := fun h2 => gT h2 vm = 24 ∧ (wp_Mod_told Z (fun r4 h5 => (r = r4 → (SI Z vx vm vo h5)) ∧ (¬ r = r4 → (False))) h2 vm (w 1))) K Q t n b m2 K2 fun Q2 kk => ⟨Q2.1.1, r_told K.1 Q2 fun r4 h5 kr4 Q5 s5 => ⟨fun _ => kk h5 Q5 s5, fun w => w (kr.uniq (by omega) kr4)⟩⟩
theorem w_14 {w : Nat → Int32} (H : SI Z vx vm vo h) : wl_14 Z w vx vm vo (SI Z vx vm vo) h := by
  obtain ⟨A, R, B, d, ch, K, Q, t, n, b⟩ := H
  have x : gT h vx = 16 := by obtain ⟨-, -, ⟨pm, -, C⟩, -⟩ := K; exact C.1.1.x
  refine ⟨x, k_same K fun h2 K2 m2 => ?_⟩
  exact law_q (WM := fun h2 => gT h2 vm = 24 ∧ (wp_Mod_same Z (fun r4 h5 => ((1 : Int32) = r4 → (SI Z vx vm vo h5)) ∧ (¬ (1 : Int32) = r4 → (False))) h2 vm)) K Q t n b m2 K2 fun Q2 kk => ⟨Q2.1.1, r_same Q2 fun h5 Q5 s5 => ⟨fun _ => kk h5 Q5 s5, fun w => w rfl⟩⟩
theorem w_15 {w : Nat → Int32} (H : SI Z vx vm vo h) : wl_15 Z w vx vm vo (SI Z vx vm vo) h := by
  obtain ⟨A, R, B, d, ch, K, Q, t, n, b⟩ := H
  have x : gT h vx = 16 := by obtain ⟨-, -, ⟨pm, -, C⟩, -⟩ := K; exact C.1.1.x
  have c9 : cnt d ≤ 960 := cn_up _ _
  refine ⟨x, k_changed K fun r kr => ?_⟩
  exact law_q (WM := fun h2 => gT h2 vm = 24 ∧ (wp_Mod_changed Z (fun r4 h5 => (r = r4 → (SI Z vx vm vo h5)) ∧ (¬ r = r4 → (False))) h2 vm (w 1))) K Q t n b mv.rf K fun Q2 kk => ⟨Q2.1.1, r_changed K.1 Q2 fun r4 h5 kr4 Q5 s5 => ⟨fun _ => kk h5 Q5 s5, fun w => w (kr.uniq (by omega) kr4)⟩⟩
theorem w_start : wl_start Z (SI Z) hE := by
  intro vx hvx h2 e2
  have t2 : gT h2 vx = 16 := by rw [e2, gT_nH2, if_pos rfl]
  refine k_init t2 (by rw [e2, gI_nH2, if_pos rfl]) (by rw [e2, gI_nH2, if_pos rfl]) fun A B h4 K4 => ?_
  intro vm hvm h6 e6
  have bx : B vx = (0, 0) := by obtain ⟨-, -, ⟨pm, -, C⟩, -⟩ := K4; exact C.bx
  have x4 : gT h4 vx = 16 := by obtain ⟨-, -, ⟨pm, -, C⟩, -⟩ := K4; exact C.1.1.x
  have c6 : ∀ a, a ≠ vm → ce h4 h6 a := fun a ha => by rw [e6]; exact ce_nH ha
  have lm : ∀ a, gT h4 a ≠ 0 → a ≠ vm := fun a ha w => ha (by rw [w]; exact hvm)
  refine r_init (B := fun a => if a = vm then (20, 0) else B a) (by rw [e6, gT_nH2, if_pos rfl]) (fun g => by rw [e6, gI_nH2, if_pos rfl]) (if_pos rfl) fun R B8 h8 Q8 n8 => ?_
  intro vo hvo h10 e10
  have c10 : ∀ a, a ≠ vo → ce h8 h10 a := fun a ha => by rw [e10]; exact ce_nH ha
  have lo : ∀ a, gT h8 a ≠ 0 → a ≠ vo := fun a ha w => ha (by rw [w]; exact hvo)
  have all : ∀ a, gT h4 a ≠ 0 → ce h4 h10 a ∧ B8 a = B a ∧ a ≠ vo := by
    intro a ha
    have am := lm a ha
    have c := c6 a am
    obtain ⟨y1, y2, y3⟩ := n8 a (by rw [c.T]; exact ha)
    have ao := lo a y1
    exact ⟨ce_tr c (ce_tr (y3 am) (c10 a ao)), by rw [y2]; exact if_neg am, ao⟩
  have ax := all vx (by rw [x4]; decide)
  refine ⟨A, R, fun a => if a = vo then (21, 0) else B8 a, d0, fun _ => False, K4.go ax.1 (by rw [if_neg ax.2.2, ax.2.1]; exact bx) ⟨fun a h1 h2 h3 => ?_, fun _ _ _ _ => rfl⟩, Q8.go fun a ha hl => ?_, by rw [e10, gT_nH2, if_pos rfl], by rw [e10, gN_nH2, if_pos rfl], if_pos rfl⟩
  · obtain ⟨y1, y2, y3⟩ := all a h3
    exact ⟨y1, (if_neg y3).trans y2⟩
  · have ao := lo a hl
    exact ⟨c10 a ao, if_neg ao⟩
theorem pure_ok : PURE := by
  intro Z
  refine ⟨SI Z, w_start, fun vx vm vo w h H => ?_⟩
  exact ⟨fun _ => w_0 H, fun _ => w_1 H, fun _ => w_2 H, fun _ => w_3 H, fun _ => w_4 H, fun _ => w_5 H, fun _ => w_6 H, fun _ => w_7 H, fun _ => w_8 H, fun _ => w_9 H, fun _ => w_10 H, fun _ => w_11 H, fun _ => w_12 H, fun _ => w_13 H, fun _ => w_14 H, fun _ => w_15 H⟩
end LAW
