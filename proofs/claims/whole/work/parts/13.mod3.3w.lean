/-- NetJoinsModel.nets()I -/
def wp_Mod_nets (Z : Nat → Nat) (post : Int32 → HS → Prop) (h : HS) (v0 : Nat)  : Prop :=
  gT h v0 = 24 ∧ (∀ h2, h2 = sI h 800 v0 (0 : Int32) → (gT h2 v0 = 24 ∧ (post (gI h2 829 v0) h2)))
/-- NetJoinsModel.copySheet(II)I -/
def wj_Mod_copySheet_42 (Z : Nat → Nat) (post : Int32 → HS → Prop) (K5 : Int32 × Int32 × Int32 × Int32 × HS → Prop) (v0 : Nat) (x1 : Int32) (x2 : Int32) (x3 : Int32) (x4 : Int32) (h : HS) : Prop :=
  ∀ y1, y1 = x4 + (1 : Int32) → (K5 (x1, x2, x3, y1, h))
def wb_Mod_copySheet_5 (Z : Nat → Nat) (post : Int32 → HS → Prop) (v0 : Nat) (K5 : Int32 × Int32 × Int32 × Int32 × HS → Prop) : Int32 × Int32 × Int32 × Int32 × HS → Prop := fun q => match q with
  | (x1, x2, x3, x4, h) =>
  gT h v0 = 24 ∧ (((gI h 801 v0) ≤ x4 → (post (-1 : Int32) h)) ∧ (¬ (gI h 801 v0) ≤ x4 → ((x2 < 0 → (post (-1 : Int32) h)) ∧ (¬ x2 < 0 → (gT h v0 = 24 ∧ (∃ a5, (gR h 803 v0) = some a5 ∧ gT h a5 = 1 ∧ vp_in x4 (gN h a5) ∧ (((gA h a5 x4.toNatClampNeg) = x1 → ((¬ x3 = 0 → (∀ y9, y9 = x3 + (-1 : Int32) → (wj_Mod_copySheet_42 Z post K5 v0 x1 x2 y9 x4 h))) ∧ (x3 = 0 → (post x4 h)))) ∧ (¬ (gA h a5 x4.toNatClampNeg) = x1 → (wj_Mod_copySheet_42 Z post K5 v0 x1 x2 x3 x4 h)))))))))
def wp_Mod_copySheet (Z : Nat → Nat) (post : Int32 → HS → Prop) (h : HS) (v0 : Nat) (x1 : Int32) (x2 : Int32) : Prop :=
  lp (wb_Mod_copySheet_5 Z post v0) (x1, x2, x2, x1, h)
/-- NetJoinsModel.netOf(II)I -/
def wj_Mod_netOf_39 (Z : Nat → Nat) (post : Int32 → HS → Prop) (v0 : Nat) (x1 : Int32) (x3 : Int32) (s0 : Int32) (s1 : Option Nat) (h : HS) : Prop :=
  ∃ a1, s1 = some a1 ∧ gT h a1 = 24 ∧ (∀ h3, h3 = sI h 800 a1 s0 → (gT h3 v0 = 24 ∧ ((¬ (gI h3 800 v0) = 0 → (post (0 : Int32) h3)) ∧ ((gI h3 800 v0) = 0 → (gT h3 v0 = 24 ∧ (∃ a7, (gR h3 827 v0) = some a7 ∧ gT h3 a7 = 1 ∧ vp_in (((16 : Int32) * x1) + x3) (gN h3 a7) ∧ (post (gA h3 a7 (((16 : Int32) * x1) + x3).toNatClampNeg) h3)))))))
def wj_Mod_netOf_27 (Z : Nat → Nat) (post : Int32 → HS → Prop) (v0 : Nat) (x1 : Int32) (s0 : Int32) (h : HS) : Prop :=
  (¬ s0 = (-1 : Int32) → (wj_Mod_netOf_39 Z post v0 x1 s0 (0 : Int32) (some v0) h)) ∧ (s0 = (-1 : Int32) → (wj_Mod_netOf_39 Z post v0 x1 s0 (1 : Int32) (some v0) h))
def wj_Mod_netOf_12 (Z : Nat → Nat) (post : Int32 → HS → Prop) (v0 : Nat) (x1 : Int32) (h : HS) : Prop :=
  wj_Mod_netOf_27 Z post v0 x1 (-1 : Int32) h
def wp_Mod_netOf (Z : Nat → Nat) (post : Int32 → HS → Prop) (h : HS) (v0 : Nat) (x1 : Int32) (x2 : Int32) : Prop :=
  (x1 < 0 → (wj_Mod_netOf_12 Z post v0 x1 h)) ∧ (¬ x1 < 0 → (gT h v0 = 24 ∧ ((x1 < (gI h 815 v0) → (gT h v0 = 24 ∧ (∃ a5, (gR h 816 v0) = some a5 ∧ gT h a5 = 1 ∧ vp_in x1 (gN h a5) ∧ (gT h v0 = 24 ∧ (wp_Mod_copySheet Z (fun r7 h8 => wj_Mod_netOf_27 Z post v0 x1 r7 h8) h v0 (gA h a5 x1.toNatClampNeg) x2))))) ∧ (¬ x1 < (gI h 815 v0) → (wj_Mod_netOf_12 Z post v0 x1 h)))))
/-- NetJoinsModel.rank(II)Z -/
def wj_Mod_rank_25 (Z : Nat → Nat) (post : Int32 → HS → Prop) (v0 : Nat) (x1 : Int32) (x2 : Int32) (s0 : Int32) (s1 : Option Nat) (h : HS) : Prop :=
  ∃ a1, s1 = some a1 ∧ gT h a1 = 24 ∧ (∀ h3, h3 = sI h 800 a1 s0 → (gT h3 v0 = 24 ∧ ((¬ (gI h3 800 v0) = 0 → (post (0 : Int32) h3)) ∧ ((gI h3 800 v0) = 0 → (gT h3 v0 = 24 ∧ (∃ a7, (gR h3 824 v0) = some a7 ∧ gT h3 a7 = 1 ∧ vp_in x1 (gN h3 a7) ∧ ((¬ (gA h3 a7 x1.toNatClampNeg) = x2 → (gT h3 v0 = 24 ∧ (∃ a11, (gR h3 824 v0) = some a11 ∧ gT h3 a11 = 1 ∧ vp_in x1 (gN h3 a11) ∧ (∀ h13, h13 = sA h3 a11 x1.toNatClampNeg x2 → (post (1 : Int32) h13))))) ∧ ((gA h3 a7 x1.toNatClampNeg) = x2 → (post (0 : Int32) h3)))))))))
def wj_Mod_rank_24 (Z : Nat → Nat) (post : Int32 → HS → Prop) (v0 : Nat) (x1 : Int32) (x2 : Int32) (s0 : Option Nat) (h : HS) : Prop :=
  wj_Mod_rank_25 Z post v0 x1 x2 (1 : Int32) s0 h
def wp_Mod_rank (Z : Nat → Nat) (post : Int32 → HS → Prop) (h : HS) (v0 : Nat) (x1 : Int32) (x2 : Int32) : Prop :=
  wp_Mod_isName Z (fun r1 h2 => (r1 = 0 → (wj_Mod_rank_24 Z post v0 x1 x2 (some v0) h2)) ∧ (¬ r1 = 0 → ((x2 < (-9 : Int32) → (wj_Mod_rank_24 Z post v0 x1 x2 (some v0) h2)) ∧ (¬ x2 < (-9 : Int32) → (((9 : Int32) < x2 → (wj_Mod_rank_24 Z post v0 x1 x2 (some v0) h2)) ∧ (¬ (9 : Int32) < x2 → (wj_Mod_rank_25 Z post v0 x1 x2 (0 : Int32) (some v0) h2))))))) h x1
/-- NetJoinsModel.hasName(II)Z -/
def wj_Mod_hasName_83 (Z : Nat → Nat) (post : Int32 → HS → Prop) (K2 : Int32 × Int32 × Int32 × HS → Prop) (v0 : Nat) (x1 : Int32) (x2 : Int32) (x3 : Int32) (h : HS) : Prop :=
  ∀ y1, y1 = x3 + (1 : Int32) → (K2 (x1, x2, y1, h))
def wj_Mod_hasName_77 (Z : Nat → Nat) (post : Int32 → HS → Prop) (K2 : Int32 × Int32 × Int32 × HS → Prop) (K26 : Int32 × Int32 × Int32 × Int32 × HS → Prop) (v0 : Nat) (x1 : Int32) (x2 : Int32) (x3 : Int32) (x4 : Int32) (h : HS) : Prop :=
  ∀ y1, y1 = x4 + (1 : Int32) → (K26 (x1, x2, x3, y1, h))
def wb_Mod_hasName_26 (Z : Nat → Nat) (post : Int32 → HS → Prop) (K2 : Int32 × Int32 × Int32 × HS → Prop) (v0 : Nat) (K26 : Int32 × Int32 × Int32 × Int32 × HS → Prop) : Int32 × Int32 × Int32 × Int32 × HS → Prop := fun q => match q with
  | (x1, x2, x3, x4, h) =>
  gT h v0 = 24 ∧ (((gI h 801 v0) ≤ x4 → (wj_Mod_hasName_83 Z post K2 v0 x1 x2 x3 h)) ∧ (¬ (gI h 801 v0) ≤ x4 → (gT h v0 = 24 ∧ (∃ a4, (gR h 803 v0) = some a4 ∧ gT h a4 = 1 ∧ vp_in x4 (gN h a4) ∧ (gT h v0 = 24 ∧ (∃ a7, (gR h 812 v0) = some a7 ∧ gT h a7 = 1 ∧ vp_in x3 (gN h a7) ∧ ((¬ (gA h a4 x4.toNatClampNeg) = (gA h a7 x3.toNatClampNeg) → (wj_Mod_hasName_77 Z post K2 K26 v0 x1 x2 x3 x4 h)) ∧ ((gA h a4 x4.toNatClampNeg) = (gA h a7 x3.toNatClampNeg) → (gT h v0 = 24 ∧ (gT h v0 = 24 ∧ (wp_Mod_leader Z (fun r11 h12 => ∃ a14, (gR h 826 v0) = some a14 ∧ gT h12 a14 = 1 ∧ vp_in r11 (gN h12 a14) ∧ ((¬ (gA h12 a14 r11.toNatClampNeg) = x1 → (wj_Mod_hasName_77 Z post K2 K26 v0 x1 x2 x3 x4 h12)) ∧ ((gA h12 a14 r11.toNatClampNeg) = x1 → (post (1 : Int32) h12)))) h v0 (((1600 : Int32) + ((16 : Int32) * x3)) + x4))))))))))))
def wb_Mod_hasName_2 (Z : Nat → Nat) (post : Int32 → HS → Prop) (v0 : Nat) (K2 : Int32 × Int32 × Int32 × HS → Prop) : Int32 × Int32 × Int32 × HS → Prop := fun q => match q with
  | (x1, x2, x3, h) =>
  gT h v0 = 24 ∧ (((gI h 811 v0) ≤ x3 → (post (0 : Int32) h)) ∧ (¬ (gI h 811 v0) ≤ x3 → (gT h v0 = 24 ∧ (∃ a4, (gR h 813 v0) = some a4 ∧ gT h a4 = 1 ∧ vp_in x3 (gN h a4) ∧ (((gA h a4 x3.toNatClampNeg) = x2 → (lp (wb_Mod_hasName_26 Z post K2 v0) (x1, x2, x3, (0 : Int32), h))) ∧ (¬ (gA h a4 x3.toNatClampNeg) = x2 → (wj_Mod_hasName_83 Z post K2 v0 x1 x2 x3 h)))))))
def wp_Mod_hasName (Z : Nat → Nat) (post : Int32 → HS → Prop) (h : HS) (v0 : Nat) (x1 : Int32) (x2 : Int32) : Prop :=
  lp (wb_Mod_hasName_2 Z post v0) (x1, x2, (0 : Int32), h)
/-- NetJoinsModel.nameOf(I)I -/
def wj_Mod_nameOf_71 (Z : Nat → Nat) (post : Int32 → HS → Prop) (v0 : Nat) (x2 : Int32) (x3 : Int32) (h : HS) : Prop :=
  (¬ x2 = (-1 : Int32) → (post x2 h)) ∧ (x2 = (-1 : Int32) → ((¬ (16 : Int32) = 0) ∧ (post ((-1 : Int32) - (x3 / (16 : Int32))) h)))
def wb_Mod_nameOf_50 (Z : Nat → Nat) (post : Int32 → HS → Prop) (v0 : Nat) (K50 : Int32 × Int32 × Int32 × HS → Prop) : Int32 × Int32 × Int32 × HS → Prop := fun q => match q with
  | (x1, x2, x3, h) =>
  (¬ x2 = (-1 : Int32) → (wj_Mod_nameOf_71 Z post v0 x2 x3 h)) ∧ (x2 = (-1 : Int32) → (gT h v0 = 24 ∧ (∃ a3, (gR h 827 v0) = some a3 ∧ gT h a3 = 1 ∧ vp_in x3 (gN h a3) ∧ (((gA h a3 x3.toNatClampNeg) = x1 → (wj_Mod_nameOf_71 Z post v0 x2 x3 h)) ∧ (¬ (gA h a3 x3.toNatClampNeg) = x1 → (∀ y6, y6 = x3 + (1 : Int32) → (K50 (x1, x2, y6, h))))))))
def wj_Mod_nameOf_42 (Z : Nat → Nat) (post : Int32 → HS → Prop) (K4 : Int32 × Int32 × Int32 × HS → Prop) (v0 : Nat) (x1 : Int32) (x2 : Int32) (x3 : Int32) (h : HS) : Prop :=
  ∀ y1, y1 = x3 + (1 : Int32) → (K4 (x1, x2, y1, h))
def wj_Mod_nameOf_31 (Z : Nat → Nat) (post : Int32 → HS → Prop) (K4 : Int32 × Int32 × Int32 × HS → Prop) (v0 : Nat) (x1 : Int32) (x2 : Int32) (x3 : Int32) (h : HS) : Prop :=
  gT h v0 = 24 ∧ (wp_Mod_hasName Z (fun r1 h2 => (r1 = 0 → (wj_Mod_nameOf_42 Z post K4 v0 x1 x2 x3 h2)) ∧ (¬ r1 = 0 → (wj_Mod_nameOf_42 Z post K4 v0 x1 x3 x3 h2))) h v0 x1 x3)
def wb_Mod_nameOf_4 (Z : Nat → Nat) (post : Int32 → HS → Prop) (v0 : Nat) (K4 : Int32 × Int32 × Int32 × HS → Prop) : Int32 × Int32 × Int32 × HS → Prop := fun q => match q with
  | (x1, x2, x3, h) =>
  ((1000 : Int32) ≤ x3 → (lp (wb_Mod_nameOf_50 Z post v0) (x1, x2, (0 : Int32), h))) ∧ (¬ (1000 : Int32) ≤ x3 → ((x2 = (-1 : Int32) → (wj_Mod_nameOf_31 Z post K4 v0 x1 x2 x3 h)) ∧ (¬ x2 = (-1 : Int32) → (gT h v0 = 24 ∧ (∃ a4, (gR h 824 v0) = some a4 ∧ gT h a4 = 1 ∧ vp_in x3 (gN h a4) ∧ (gT h v0 = 24 ∧ (∃ a7, (gR h 824 v0) = some a7 ∧ gT h a7 = 1 ∧ vp_in x2 (gN h a7) ∧ (((gA h a4 x3.toNatClampNeg) ≤ (gA h a7 x2.toNatClampNeg) → (wj_Mod_nameOf_42 Z post K4 v0 x1 x2 x3 h)) ∧ (¬ (gA h a4 x3.toNatClampNeg) ≤ (gA h a7 x2.toNatClampNeg) → (wj_Mod_nameOf_31 Z post K4 v0 x1 x2 x3 h))))))))))
def wp_Mod_nameOf (Z : Nat → Nat) (post : Int32 → HS → Prop) (h : HS) (v0 : Nat) (x1 : Int32) : Prop :=
  lp (wb_Mod_nameOf_4 Z post v0) (x1, (-1 : Int32), (0 : Int32), h)
/-- NetJoinsModel.name(I)I -/
def wj_Mod_name_18 (Z : Nat → Nat) (post : Int32 → HS → Prop) (v0 : Nat) (x1 : Int32) (s0 : Int32) (s1 : Option Nat) (h : HS) : Prop :=
  ∃ a1, s1 = some a1 ∧ gT h a1 = 24 ∧ (∀ h3, h3 = sI h 800 a1 s0 → (gT h3 v0 = 24 ∧ ((¬ (gI h3 800 v0) = 0 → (post (0 : Int32) h3)) ∧ ((gI h3 800 v0) = 0 → (gT h3 v0 = 24 ∧ (wp_Mod_nameOf Z (fun r6 h7 => post r6 h7) h3 v0 x1))))))
def wj_Mod_name_17 (Z : Nat → Nat) (post : Int32 → HS → Prop) (v0 : Nat) (x1 : Int32) (s0 : Option Nat) (h : HS) : Prop :=
  wj_Mod_name_18 Z post v0 x1 (1 : Int32) s0 h
def wp_Mod_name (Z : Nat → Nat) (post : Int32 → HS → Prop) (h : HS) (v0 : Nat) (x1 : Int32) : Prop :=
  (x1 < 0 → (wj_Mod_name_17 Z post v0 x1 (some v0) h)) ∧ (¬ x1 < 0 → (gT h v0 = 24 ∧ (((gI h 829 v0) ≤ x1 → (wj_Mod_name_17 Z post v0 x1 (some v0) h)) ∧ (¬ (gI h 829 v0) ≤ x1 → (wj_Mod_name_18 Z post v0 x1 (0 : Int32) (some v0) h)))))
/-- NetJoinsModel.open(I)Z -/
def wj_Mod_open_18 (Z : Nat → Nat) (post : Int32 → HS → Prop) (v0 : Nat) (x1 : Int32) (s0 : Int32) (s1 : Option Nat) (h : HS) : Prop :=
  ∃ a1, s1 = some a1 ∧ gT h a1 = 24 ∧ (∀ h3, h3 = sI h 800 a1 s0 → (gT h3 v0 = 24 ∧ (((gI h3 800 v0) = 0 → (gT h3 v0 = 24 ∧ (gT h3 v0 = 24 ∧ (∃ a8, (gR h3 819 v0) = some a8 ∧ gT h3 a8 = 2 ∧ vp_in x1 (gN h3 a8) ∧ ((¬ (gA h3 a8 x1.toNatClampNeg) = 0 → (∃ a11, (gR h3 819 v0) = some a11 ∧ gT h3 a11 = 2 ∧ vp_in x1 (gN h3 a11) ∧ (((0 : Int32) = 0 ∨ (0 : Int32) = 1) ∧ (∀ h14, h14 = sA h3 a11 x1.toNatClampNeg (0 : Int32) → (gT h14 v0 = 24 ∧ (∃ a16, (gR h14 819 v0) = some a16 ∧ gT h14 a16 = 2 ∧ vp_in x1 (gN h14 a16) ∧ (((gA h14 a16 x1.toNatClampNeg) = 0 ∨ (gA h14 a16 x1.toNatClampNeg) = 1) ∧ post (gA h14 a16 x1.toNatClampNeg) h14))))))) ∧ ((gA h3 a8 x1.toNatClampNeg) = 0 → (∃ a18, (gR h3 819 v0) = some a18 ∧ gT h3 a18 = 2 ∧ vp_in x1 (gN h3 a18) ∧ (((1 : Int32) = 0 ∨ (1 : Int32) = 1) ∧ (∀ h21, h21 = sA h3 a18 x1.toNatClampNeg (1 : Int32) → (gT h21 v0 = 24 ∧ (∃ a23, (gR h21 819 v0) = some a23 ∧ gT h21 a23 = 2 ∧ vp_in x1 (gN h21 a23) ∧ (((gA h21 a23 x1.toNatClampNeg) = 0 ∨ (gA h21 a23 x1.toNatClampNeg) = 1) ∧ post (gA h21 a23 x1.toNatClampNeg) h21)))))))))))) ∧ (¬ (gI h3 800 v0) = 0 → (post (0 : Int32) h3)))))
def wj_Mod_open_17 (Z : Nat → Nat) (post : Int32 → HS → Prop) (v0 : Nat) (x1 : Int32) (s0 : Option Nat) (h : HS) : Prop :=
  wj_Mod_open_18 Z post v0 x1 (1 : Int32) s0 h
def wp_Mod_open (Z : Nat → Nat) (post : Int32 → HS → Prop) (h : HS) (v0 : Nat) (x1 : Int32) : Prop :=
  (x1 < 0 → (wj_Mod_open_17 Z post v0 x1 (some v0) h)) ∧ (¬ x1 < 0 → (gT h v0 = 24 ∧ (((gI h 815 v0) ≤ x1 → (wj_Mod_open_17 Z post v0 x1 (some v0) h)) ∧ (¬ (gI h 815 v0) ≤ x1 → (wj_Mod_open_18 Z post v0 x1 (0 : Int32) (some v0) h)))))
/-- NetJoinsModel.isBare(I)Z -/
def wj_Mod_isBare_129 (Z : Nat → Nat) (post : Int32 → HS → Prop) (K75 : Int64 × Int64 × Int32 × Int32 × HS → Prop) (v0 : Nat) (x2 : Int64) (x4 : Int64) (x6 : Int32) (x7 : Int32) (h : HS) : Prop :=
  ∀ y1, y1 = x7 + (1 : Int32) → (K75 (x2, x4, x6, y1, h))
def wb_Mod_isBare_75 (Z : Nat → Nat) (post : Int32 → HS → Prop) (v0 : Nat) (K75 : Int64 × Int64 × Int32 × Int32 × HS → Prop) : Int64 × Int64 × Int32 × Int32 × HS → Prop := fun q => match q with
  | (x2, x4, x6, x7, h) =>
  gT h v0 = 24 ∧ (((gI h 815 v0) ≤ x7 → (post (1 : Int32) h)) ∧ (¬ (gI h 815 v0) ≤ x7 → (gT h v0 = 24 ∧ (∃ a4, (gR h 816 v0) = some a4 ∧ gT h a4 = 1 ∧ vp_in x7 (gN h a4) ∧ ((¬ (gA h a4 x7.toNatClampNeg) = x6 → (wj_Mod_isBare_129 Z post K75 v0 x2 x4 x6 x7 h)) ∧ ((gA h a4 x7.toNatClampNeg) = x6 → (gT h v0 = 24 ∧ (∃ a8, (gR h 818 v0) = some a8 ∧ gT h a8 = 3 ∧ vp_in ((2 : Int32) * x7) (gN h a8) ∧ ((¬ (lg_cmp (gL h a8 ((2 : Int32) * x7).toNatClampNeg) x2) = 0 → (wj_Mod_isBare_129 Z post K75 v0 x2 x4 x6 x7 h)) ∧ ((lg_cmp (gL h a8 ((2 : Int32) * x7).toNatClampNeg) x2) = 0 → (gT h v0 = 24 ∧ (∃ a12, (gR h 818 v0) = some a12 ∧ gT h a12 = 3 ∧ vp_in (((2 : Int32) * x7) + (1 : Int32)) (gN h a12) ∧ ((¬ (lg_cmp (gL h a12 (((2 : Int32) * x7) + (1 : Int32)).toNatClampNeg) x4) = 0 → (wj_Mod_isBare_129 Z post K75 v0 x2 x4 x6 x7 h)) ∧ ((lg_cmp (gL h a12 (((2 : Int32) * x7) + (1 : Int32)).toNatClampNeg) x4) = 0 → (post (0 : Int32) h)))))))))))))))
def wj_Mod_isBare_66 (Z : Nat → Nat) (post : Int32 → HS → Prop) (K32 : Int64 × Int64 × Int32 × Int32 × HS → Prop) (v0 : Nat) (x2 : Int64) (x4 : Int64) (x6 : Int32) (x7 : Int32) (h : HS) : Prop :=
  ∀ y1, y1 = x7 + (1 : Int32) → (K32 (x2, x4, x6, y1, h))
def wb_Mod_isBare_32 (Z : Nat → Nat) (post : Int32 → HS → Prop) (v0 : Nat) (K32 : Int64 × Int64 × Int32 × Int32 × HS → Prop) : Int64 × Int64 × Int32 × Int32 × HS → Prop := fun q => match q with
  | (x2, x4, x6, x7, h) =>
  gT h v0 = 24 ∧ (((gI h 804 v0) ≤ x7 → (lp (wb_Mod_isBare_75 Z post v0) (x2, x4, x6, (0 : Int32), h))) ∧ (¬ (gI h 804 v0) ≤ x7 → (gT h v0 = 24 ∧ (wp_Mod_isOn Z (fun r3 h4 => (r3 = 0 → (wj_Mod_isBare_66 Z post K32 v0 x2 x4 x6 x7 h4)) ∧ (¬ r3 = 0 → (gT h4 v0 = 24 ∧ (wp_Mod_goesThrough Z (fun r7 h8 => (r7 = 0 → (wj_Mod_isBare_66 Z post K32 v0 x2 x4 x6 x7 h8)) ∧ (¬ r7 = 0 → (post (0 : Int32) h8))) h4 v0 x7 x2 x4)))) h v0 x7 x6))))
def wp_Mod_isBare (Z : Nat → Nat) (post : Int32 → HS → Prop) (h : HS) (v0 : Nat) (x1 : Int32) : Prop :=
  gT h v0 = 24 ∧ (∃ a2, (gR h 814 v0) = some a2 ∧ gT h a2 = 3 ∧ vp_in ((2 : Int32) * x1) (gN h a2) ∧ (∀ y4, y4 = (gL h a2 ((2 : Int32) * x1).toNatClampNeg) → (gT h v0 = 24 ∧ (∃ a6, (gR h 814 v0) = some a6 ∧ gT h a6 = 3 ∧ vp_in (((2 : Int32) * x1) + (1 : Int32)) (gN h a6) ∧ (∀ y8, y8 = (gL h a6 (((2 : Int32) * x1) + (1 : Int32)).toNatClampNeg) → (gT h v0 = 24 ∧ (∃ a10, (gR h 812 v0) = some a10 ∧ gT h a10 = 1 ∧ vp_in x1 (gN h a10) ∧ (∀ y12, y12 = (gA h a10 x1.toNatClampNeg) → (lp (wb_Mod_isBare_32 Z post v0) (y4, y8, y12, (0 : Int32), h))))))))))
/-- NetJoinsModel.isJoined(I)Z -/
def wj_Mod_isJoined_63 (Z : Nat → Nat) (post : Int32 → HS → Prop) (K5 : Int32 × Int32 × HS → Prop) (v0 : Nat) (x1 : Int32) (x2 : Int32) (h : HS) : Prop :=
  ∀ y1, y1 = x2 + (1 : Int32) → (K5 (x1, y1, h))
def wj_Mod_isJoined_57 (Z : Nat → Nat) (post : Int32 → HS → Prop) (K5 : Int32 × Int32 × HS → Prop) (K18 : Int32 × Int32 × Int32 × HS → Prop) (v0 : Nat) (x1 : Int32) (x2 : Int32) (x3 : Int32) (h : HS) : Prop :=
  ∀ y1, y1 = x3 + (1 : Int32) → (K18 (x1, x2, y1, h))
def wb_Mod_isJoined_18 (Z : Nat → Nat) (post : Int32 → HS → Prop) (K5 : Int32 × Int32 × HS → Prop) (v0 : Nat) (K18 : Int32 × Int32 × Int32 × HS → Prop) : Int32 × Int32 × Int32 × HS → Prop := fun q => match q with
  | (x1, x2, x3, h) =>
  ((960 : Int32) ≤ x3 → (wj_Mod_isJoined_63 Z post K5 v0 x1 x2 h)) ∧ (¬ (960 : Int32) ≤ x3 → (gT h v0 = 24 ∧ (∃ a3, (gR h 827 v0) = some a3 ∧ gT h a3 = 1 ∧ vp_in x2 (gN h a3) ∧ (((gA h a3 x2.toNatClampNeg) = (-1 : Int32) → (wj_Mod_isJoined_63 Z post K5 v0 x1 x2 h)) ∧ (¬ (gA h a3 x2.toNatClampNeg) = (-1 : Int32) → ((x3 = x2 → (wj_Mod_isJoined_57 Z post K5 K18 v0 x1 x2 x3 h)) ∧ (¬ x3 = x2 → (gT h v0 = 24 ∧ (∃ a8, (gR h 827 v0) = some a8 ∧ gT h a8 = 1 ∧ vp_in x3 (gN h a8) ∧ (gT h v0 = 24 ∧ (∃ a11, (gR h 827 v0) = some a11 ∧ gT h a11 = 1 ∧ vp_in x2 (gN h a11) ∧ ((¬ (gA h a8 x3.toNatClampNeg) = (gA h a11 x2.toNatClampNeg) → (wj_Mod_isJoined_57 Z post K5 K18 v0 x1 x2 x3 h)) ∧ ((gA h a8 x3.toNatClampNeg) = (gA h a11 x2.toNatClampNeg) → (post (1 : Int32) h))))))))))))))
def wb_Mod_isJoined_5 (Z : Nat → Nat) (post : Int32 → HS → Prop) (v0 : Nat) (K5 : Int32 × Int32 × HS → Prop) : Int32 × Int32 × HS → Prop := fun q => match q with
  | (x1, x2, h) =>
  ((((16 : Int32) * x1) + (16 : Int32)) ≤ x2 → (post (0 : Int32) h)) ∧ (¬ (((16 : Int32) * x1) + (16 : Int32)) ≤ x2 → (lp (wb_Mod_isJoined_18 Z post K5 v0) (x1, x2, (0 : Int32), h)))
def wp_Mod_isJoined (Z : Nat → Nat) (post : Int32 → HS → Prop) (h : HS) (v0 : Nat) (x1 : Int32) : Prop :=
  ∀ y1, y1 = ((16 : Int32) * x1) → (lp (wb_Mod_isJoined_5 Z post v0) (x1, y1, h))
/-- NetJoinsModel.told(I)I -/
def wj_Mod_told_175 (Z : Nat → Nat) (post : Int32 → HS → Prop) (K135 : Int32 × Int32 × HS → Prop) (v0 : Nat) (x2 : Int32) (x3 : Int32) (h : HS) : Prop :=
  ∀ y1, y1 = x3 + (1 : Int32) → (K135 (x2, y1, h))
def wb_Mod_told_135 (Z : Nat → Nat) (post : Int32 → HS → Prop) (v0 : Nat) (K135 : Int32 × Int32 × HS → Prop) : Int32 × Int32 × HS → Prop := fun q => match q with
  | (x2, x3, h) =>
  gT h v0 = 24 ∧ (((gI h 815 v0) ≤ x3 → (post (-1 : Int32) h)) ∧ (¬ (gI h 815 v0) ≤ x3 → (gT h v0 = 24 ∧ (∃ a4, (gR h 819 v0) = some a4 ∧ gT h a4 = 2 ∧ vp_in x3 (gN h a4) ∧ (((gA h a4 x3.toNatClampNeg) = 0 → (wj_Mod_told_175 Z post K135 v0 x2 x3 h)) ∧ (¬ (gA h a4 x3.toNatClampNeg) = 0 → (gT h v0 = 24 ∧ (wp_Mod_isJoined Z (fun r7 h8 => (¬ r7 = 0 → ((¬ x2 = 0 → (∀ y12, y12 = x2 + (-1 : Int32) → (wj_Mod_told_175 Z post K135 v0 y12 x3 h8))) ∧ (x2 = 0 → (post ((200000000 : Int32) + x3) h8)))) ∧ (r7 = 0 → (wj_Mod_told_175 Z post K135 v0 x2 x3 h8))) h v0 x3))))))))
def wj_Mod_told_127 (Z : Nat → Nat) (post : Int32 → HS → Prop) (K96 : Int32 × Int32 × HS → Prop) (v0 : Nat) (x2 : Int32) (x3 : Int32) (h : HS) : Prop :=
  ∀ y1, y1 = x3 + (1 : Int32) → (K96 (x2, y1, h))
def wb_Mod_told_96 (Z : Nat → Nat) (post : Int32 → HS → Prop) (v0 : Nat) (K96 : Int32 × Int32 × HS → Prop) : Int32 × Int32 × HS → Prop := fun q => match q with
  | (x2, x3, h) =>
  gT h v0 = 24 ∧ (((gI h 811 v0) ≤ x3 → (lp (wb_Mod_told_135 Z post v0) (x2, (0 : Int32), h))) ∧ (¬ (gI h 811 v0) ≤ x3 → (gT h v0 = 24 ∧ (wp_Mod_isBare Z (fun r3 h4 => (¬ r3 = 0 → ((¬ x2 = 0 → (∀ y8, y8 = x2 + (-1 : Int32) → (wj_Mod_told_127 Z post K96 v0 y8 x3 h4))) ∧ (x2 = 0 → (post ((100000000 : Int32) + x3) h4)))) ∧ (r3 = 0 → (wj_Mod_told_127 Z post K96 v0 x2 x3 h4))) h v0 x3))))
def wj_Mod_told_88 (Z : Nat → Nat) (post : Int32 → HS → Prop) (K15 : Int32 × Int32 × HS → Prop) (v0 : Nat) (x2 : Int32) (x3 : Int32) (h : HS) : Prop :=
  ∀ y1, y1 = x3 + (1 : Int32) → (K15 (x2, y1, h))
def wj_Mod_told_82 (Z : Nat → Nat) (post : Int32 → HS → Prop) (K15 : Int32 × Int32 × HS → Prop) (K33 : Int32 × Int32 × Int32 × Int32 × HS → Prop) (v0 : Nat) (x2 : Int32) (x3 : Int32) (x4 : Int32) (x5 : Int32) (h : HS) : Prop :=
  ∀ y1, y1 = x5 + (1 : Int32) → (K33 (x2, x3, x4, y1, h))
def wb_Mod_told_33 (Z : Nat → Nat) (post : Int32 → HS → Prop) (K15 : Int32 × Int32 × HS → Prop) (v0 : Nat) (K33 : Int32 × Int32 × Int32 × Int32 × HS → Prop) : Int32 × Int32 × Int32 × Int32 × HS → Prop := fun q => match q with
  | (x2, x3, x4, x5, h) =>
  ((1000 : Int32) ≤ x5 → (wj_Mod_told_88 Z post K15 v0 x2 x3 h)) ∧ (¬ (1000 : Int32) ≤ x5 → ((x4 < 0 → (wj_Mod_told_88 Z post K15 v0 x2 x3 h)) ∧ (¬ x4 < 0 → ((x5 = x4 → (wj_Mod_told_82 Z post K15 K33 v0 x2 x3 x4 x5 h)) ∧ (¬ x5 = x4 → (gT h v0 = 24 ∧ (wp_Mod_hasName Z (fun r4 h5 => (¬ r4 = 0 → ((¬ x2 = 0 → (∀ y9, y9 = x2 + (-1 : Int32) → (wj_Mod_told_82 Z post K15 K33 v0 y9 x3 x4 x5 h5))) ∧ (x2 = 0 → (post (((1000 : Int32) * x3) + x5) h5)))) ∧ (r4 = 0 → (wj_Mod_told_82 Z post K15 K33 v0 x2 x3 x4 x5 h5))) h v0 x3 x5)))))))
def wb_Mod_told_15 (Z : Nat → Nat) (post : Int32 → HS → Prop) (v0 : Nat) (K15 : Int32 × Int32 × HS → Prop) : Int32 × Int32 × HS → Prop := fun q => match q with
  | (x2, x3, h) =>
  gT h v0 = 24 ∧ (((gI h 829 v0) ≤ x3 → (lp (wb_Mod_told_96 Z post v0) (x2, (0 : Int32), h))) ∧ (¬ (gI h 829 v0) ≤ x3 → (gT h v0 = 24 ∧ (wp_Mod_nameOf Z (fun r3 h4 => lp (wb_Mod_told_33 Z post K15 v0) (x2, x3, r3, (0 : Int32), h4)) h v0 x3))))
def wp_Mod_told (Z : Nat → Nat) (post : Int32 → HS → Prop) (h : HS) (v0 : Nat) (x1 : Int32) : Prop :=
  gT h v0 = 24 ∧ (∀ h2, h2 = sI h 800 v0 (0 : Int32) → ((0 ≤ x1 → (lp (wb_Mod_told_15 Z post v0) (x1, (0 : Int32), h2))) ∧ (¬ 0 ≤ x1 → (post (-1 : Int32) h2))))
/-- NetJoinsModel.same()Z -/
def wp_Mod_same (Z : Nat → Nat) (post : Int32 → HS → Prop) (h : HS) (v0 : Nat)  : Prop :=
  gT h v0 = 24 ∧ (∀ h2, h2 = sI h 800 v0 (0 : Int32) → (post (1 : Int32) h2))
/-- NetJoinsModel.changed(I)I -/
def wj_Mod_changed_42 (Z : Nat → Nat) (post : Int32 → HS → Prop) (K9 : Int32 × Int32 × Int32 × HS → Prop) (v0 : Nat) (x1 : Int32) (x2 : Int32) (x3 : Int32) (h : HS) : Prop :=
  ∀ y1, y1 = x3 + (1 : Int32) → (K9 (x1, x2, y1, h))
def wb_Mod_changed_9 (Z : Nat → Nat) (post : Int32 → HS → Prop) (v0 : Nat) (K9 : Int32 × Int32 × Int32 × HS → Prop) : Int32 × Int32 × Int32 × HS → Prop := fun q => match q with
  | (x1, x2, x3, h) =>
  gT h v0 = 24 ∧ (((gI h 829 v0) ≤ x3 → (post (-1 : Int32) h)) ∧ (¬ (gI h 829 v0) ≤ x3 → ((x1 < 0 → (post (-1 : Int32) h)) ∧ (¬ x1 < 0 → (gT h v0 = 24 ∧ (∃ a5, (gR h 830 v0) = some a5 ∧ gT h a5 = 2 ∧ vp_in x3 (gN h a5) ∧ ((¬ (gA h a5 x3.toNatClampNeg) = 0 → ((¬ x2 = 0 → (∀ y9, y9 = x2 + (-1 : Int32) → (wj_Mod_changed_42 Z post K9 v0 x1 y9 x3 h))) ∧ (x2 = 0 → (post x3 h)))) ∧ ((gA h a5 x3.toNatClampNeg) = 0 → (wj_Mod_changed_42 Z post K9 v0 x1 x2 x3 h)))))))))
def wp_Mod_changed (Z : Nat → Nat) (post : Int32 → HS → Prop) (h : HS) (v0 : Nat) (x1 : Int32) : Prop :=
  gT h v0 = 24 ∧ (∀ h2, h2 = sI h 800 v0 (0 : Int32) → (lp (wb_Mod_changed_9 Z post v0) (x1, x1, (0 : Int32), h2)))
