/-- NetJoins$Joins.addRow(II)V -/
def wp_Joins_addRow (Z : Nat → Nat) (post : HS → Prop) (h : HS) (v0 : Nat) (x1 : Int32) (x2 : Int32) : Prop :=
  (x1 < 0 → (post h)) ∧ (¬ x1 < 0 → (gT h v0 = 18 ∧ (∃ a3, (gR h 200 v0) = some a3 ∧ gT h a3 ≠ 0 ∧ gT h a3 < 6 ∧ (((nI (gN h a3)) ≤ x1 → (post h)) ∧ (¬ (nI (gN h a3)) ≤ x1 → ((x2 < 0 → (post h)) ∧ (¬ x2 < 0 → (gT h v0 = 18 ∧ ((¬ x2 < 0) ∧ x2.toNatClampNeg ≤ 900 ∧ (∀ q8, gT h q8 = 0 → (∀ h10, h10 = nH h q8 1 x2.toNatClampNeg → (∃ a11, (gR h 200 v0) = some a11 ∧ gT h10 a11 = 5 ∧ vp_in x1 (gN h10 a11) ∧ (gT h10 q8 = 1 ∧ (∀ h14, h14 = sQ h10 a11 x1.toNatClampNeg (some q8) → (gT h14 v0 = 18 ∧ (wp_Joins_scatterRow Z (fun h16 => post h16) h14 v0 x1))))))))))))))))
/-- NetJoins$Joins.scatter()V -/
def wb_Joins_scatter_2 (Z : Nat → Nat) (post : HS → Prop) (v0 : Nat) (K2 : Int32 × HS → Prop) : Int32 × HS → Prop := fun q => match q with
  | (x1, h) =>
  gT h v0 = 18 ∧ (∃ a2, (gR h 200 v0) = some a2 ∧ gT h a2 ≠ 0 ∧ gT h a2 < 6 ∧ (((nI (gN h a2)) ≤ x1 → (post h)) ∧ (¬ (nI (gN h a2)) ≤ x1 → (gT h v0 = 18 ∧ (wp_Joins_scatterRow Z (fun h6 => ∀ y8, y8 = x1 + (1 : Int32) → (K2 (y8, h6))) h v0 x1)))))
def wp_Joins_scatter (Z : Nat → Nat) (post : HS → Prop) (h : HS) (v0 : Nat)  : Prop :=
  lp (wb_Joins_scatter_2 Z post v0) ((0 : Int32), h)
/-- NetJoins$NetTable.<init>()V -/
def wp_Tab_init (Z : Nat → Nat) (post : HS → Prop) (h : HS) (v0 : Nat)  : Prop :=
  ∀ q1, gT h q1 = 0 → (∀ h2, h2 = nH h q1 1 960 → (gT h2 v0 = 19 ∧ (∀ h4, h4 = sR h2 300 v0 (some q1) → (∀ q5, gT h4 q5 = 0 → (∀ h6, h6 = nH h4 q5 1 960 → (gT h6 v0 = 19 ∧ (∀ h8, h8 = sR h6 301 v0 (some q5) → (∀ q9, gT h8 q9 = 0 → (∀ h10, h10 = nH h8 q9 1 960 → (gT h10 v0 = 19 ∧ (∀ h12, h12 = sR h10 302 v0 (some q9) → (∀ q13, gT h12 q13 = 0 → (∀ h14, h14 = nH h12 q13 1 960 → (gT h14 v0 = 19 ∧ (∀ h16, h16 = sR h14 303 v0 (some q13) → (∀ q17, gT h16 q17 = 0 → (∀ h18, h18 = nH h16 q17 2 960 → (gT h18 v0 = 19 ∧ (∀ h20, h20 = sR h18 304 v0 (some q17) → (gT h20 v0 = 19 ∧ (wp_ARR_fill Z (fun h23 => post h23) h20 (gR h20 300 v0) (-1 : Int32))))))))))))))))))))))
/-- NetJoins$NetTable.remember()V -/
def wp_Tab_remember (Z : Nat → Nat) (post : HS → Prop) (h : HS) (v0 : Nat)  : Prop :=
  gT h v0 = 19 ∧ (gT h v0 = 19 ∧ (gT h v0 = 19 ∧ (∃ a4, (gR h 300 v0) = some a4 ∧ gT h a4 ≠ 0 ∧ gT h a4 < 6 ∧ (∃ a6, (gR h 300 v0) = some a6 ∧ gT h a6 = 1 ∧ (∃ a8, (gR h 301 v0) = some a8 ∧ gT h a8 = 1 ∧ (¬ (0 : Int32) < 0) ∧ (¬ (0 : Int32) < 0) ∧ (¬ (nI (gN h a4)) < 0) ∧ (0 : Int32).toNatClampNeg + (nI (gN h a4)).toNatClampNeg ≤ gN h a6 ∧ (0 : Int32).toNatClampNeg + (nI (gN h a4)).toNatClampNeg ≤ gN h a8 ∧ (∀ h10, h10 = wA h a8 (va_cpy (gA h a6) (gA h a8) (0 : Int32).toNatClampNeg (0 : Int32).toNatClampNeg (nI (gN h a4)).toNatClampNeg) → (post h10)))))))
/-- NetJoins$NetTable.begin()V -/
def wp_Tab_begin (Z : Nat → Nat) (post : HS → Prop) (h : HS) (v0 : Nat)  : Prop :=
  gT h v0 = 19 ∧ (wp_ARR_fill Z (fun h3 => gT h3 v0 = 19 ∧ (∀ h5, h5 = sI h3 305 v0 (0 : Int32) → (post h5))) h (gR h 303 v0) (0 : Int32))
/-- NetJoins$NetTable.put(II)V -/
def wj_Tab_put_61 (Z : Nat → Nat) (post : HS → Prop) (v0 : Nat) (x1 : Int32) (h : HS) : Prop :=
  gT h v0 = 19 ∧ (gT h v0 = 19 ∧ (∃ a3, (gR h 302 v0) = some a3 ∧ gT h a3 = 1 ∧ vp_in x1 (gN h a3) ∧ (∃ a5, (gR h 303 v0) = some a5 ∧ gT h a5 = 1 ∧ vp_in (gA h a3 x1.toNatClampNeg) (gN h a5) ∧ (∃ a7, (gR h 303 v0) = some a7 ∧ gT h a7 = 1 ∧ vp_in (gA h a3 x1.toNatClampNeg) (gN h a7) ∧ (∀ h9, h9 = sA h a7 (gA h a3 x1.toNatClampNeg).toNatClampNeg ((gA h a5 (gA h a3 x1.toNatClampNeg).toNatClampNeg) + (1 : Int32)) → (post h9))))))
def wp_Tab_put (Z : Nat → Nat) (post : HS → Prop) (h : HS) (v0 : Nat) (x1 : Int32) (x2 : Int32) : Prop :=
  gT h v0 = 19 ∧ (gT h v0 = 19 ∧ (∀ h3, h3 = sI h 306 v0 (if (gI h 306 v0) < (x1 + (1 : Int32)) then (x1 + (1 : Int32)) else (gI h 306 v0)) → (gT h3 v0 = 19 ∧ (∃ a5, (gR h3 300 v0) = some a5 ∧ gT h3 a5 = 1 ∧ vp_in x1 (gN h3 a5) ∧ (∀ h7, h7 = sA h3 a5 x1.toNatClampNeg x2 → ((¬ x2 = x1 → (gT h7 v0 = 19 ∧ (gT h7 v0 = 19 ∧ (∃ a11, (gR h7 302 v0) = some a11 ∧ gT h7 a11 = 1 ∧ vp_in x2 (gN h7 a11) ∧ (∃ a13, (gR h7 302 v0) = some a13 ∧ gT h7 a13 = 1 ∧ vp_in x1 (gN h7 a13) ∧ (∀ h15, h15 = sA h7 a13 x1.toNatClampNeg (gA h7 a11 x2.toNatClampNeg) → (wj_Tab_put_61 Z post v0 x1 h15))))))) ∧ (x2 = x1 → (gT h7 v0 = 19 ∧ (gT h7 v0 = 19 ∧ (∃ a18, (gR h7 302 v0) = some a18 ∧ gT h7 a18 = 1 ∧ vp_in x1 (gN h7 a18) ∧ (∀ h20, h20 = sA h7 a18 x1.toNatClampNeg (gI h7 305 v0) → (gT h20 v0 = 19 ∧ (gT h20 v0 = 19 ∧ (∀ h23, h23 = sI h20 305 v0 ((gI h20 305 v0) + (1 : Int32)) → (wj_Tab_put_61 Z post v0 x1 h23)))))))))))))))
/-- NetJoins$NetTable.isAsRemembered()Z -/
def wb_Tab_isAsRemembered_2 (Z : Nat → Nat) (post : Int32 → HS → Prop) (v0 : Nat) (K2 : Int32 × HS → Prop) : Int32 × HS → Prop := fun q => match q with
  | (x1, h) =>
  gT h v0 = 19 ∧ (((gI h 306 v0) ≤ x1 → (post (1 : Int32) h)) ∧ (¬ (gI h 306 v0) ≤ x1 → (gT h v0 = 19 ∧ (∃ a4, (gR h 300 v0) = some a4 ∧ gT h a4 = 1 ∧ vp_in x1 (gN h a4) ∧ (gT h v0 = 19 ∧ (∃ a7, (gR h 301 v0) = some a7 ∧ gT h a7 = 1 ∧ vp_in x1 (gN h a7) ∧ (((gA h a4 x1.toNatClampNeg) = (gA h a7 x1.toNatClampNeg) → (∀ y10, y10 = x1 + (1 : Int32) → (K2 (y10, h)))) ∧ (¬ (gA h a4 x1.toNatClampNeg) = (gA h a7 x1.toNatClampNeg) → (post (0 : Int32) h)))))))))
def wp_Tab_isAsRemembered (Z : Nat → Nat) (post : Int32 → HS → Prop) (h : HS) (v0 : Nat)  : Prop :=
  lp (wb_Tab_isAsRemembered_2 Z post v0) ((0 : Int32), h)
/-- NetJoins$NetTable.changedNet(I)I -/
def wj_Tab_changedNet_31 (Z : Nat → Nat) (post : Int32 → HS → Prop) (K4 : Int32 × Int32 × Int32 × HS → Prop) (v0 : Nat) (x1 : Int32) (x2 : Int32) (x3 : Int32) (h : HS) : Prop :=
  ∀ y1, y1 = x3 + (1 : Int32) → (K4 (x1, x2, y1, h))
def wb_Tab_changedNet_4 (Z : Nat → Nat) (post : Int32 → HS → Prop) (v0 : Nat) (K4 : Int32 × Int32 × Int32 × HS → Prop) : Int32 × Int32 × Int32 × HS → Prop := fun q => match q with
  | (x1, x2, x3, h) =>
  gT h v0 = 19 ∧ (((gI h 305 v0) ≤ x3 → (post (-1 : Int32) h)) ∧ (¬ (gI h 305 v0) ≤ x3 → (gT h v0 = 19 ∧ (∃ a4, (gR h 304 v0) = some a4 ∧ gT h a4 = 2 ∧ vp_in x3 (gN h a4) ∧ (((gA h a4 x3.toNatClampNeg) = 0 → (wj_Tab_changedNet_31 Z post K4 v0 x1 x2 x3 h)) ∧ (¬ (gA h a4 x3.toNatClampNeg) = 0 → ((¬ x2 = x1 → (∀ y8, y8 = x2 + (1 : Int32) → (wj_Tab_changedNet_31 Z post K4 v0 x1 y8 x3 h))) ∧ (x2 = x1 → (post x3 h)))))))))
def wp_Tab_changedNet (Z : Nat → Nat) (post : Int32 → HS → Prop) (h : HS) (v0 : Nat) (x1 : Int32) : Prop :=
  lp (wb_Tab_changedNet_4 Z post v0) (x1, (0 : Int32), (0 : Int32), h)
/-- NetJoins$NetTable.markChanges()V -/
def wj_Tab_markChanges_79 (Z : Nat → Nat) (post : HS → Prop) (K25 : Int32 × HS → Prop) (v0 : Nat) (x1 : Int32) (h : HS) : Prop :=
  ∀ y1, y1 = x1 + (1 : Int32) → (K25 (y1, h))
def wb_Tab_markChanges_25 (Z : Nat → Nat) (post : HS → Prop) (v0 : Nat) (K25 : Int32 × HS → Prop) : Int32 × HS → Prop := fun q => match q with
  | (x1, h) =>
  gT h v0 = 19 ∧ (((gI h 306 v0) ≤ x1 → (post h)) ∧ (¬ (gI h 306 v0) ≤ x1 → (gT h v0 = 19 ∧ (∃ a4, (gR h 301 v0) = some a4 ∧ gT h a4 = 1 ∧ vp_in x1 (gN h a4) ∧ (∀ y6, y6 = (gA h a4 x1.toNatClampNeg) → (gT h v0 = 19 ∧ (∃ a8, (gR h 300 v0) = some a8 ∧ gT h a8 = 1 ∧ vp_in x1 (gN h a8) ∧ (((gA h a8 x1.toNatClampNeg) = y6 → (wj_Tab_markChanges_79 Z post K25 v0 x1 h)) ∧ (¬ (gA h a8 x1.toNatClampNeg) = y6 → (gT h v0 = 19 ∧ (gT h v0 = 19 ∧ (∃ a13, (gR h 302 v0) = some a13 ∧ gT h a13 = 1 ∧ vp_in x1 (gN h a13) ∧ (∃ a15, (gR h 304 v0) = some a15 ∧ gT h a15 = 2 ∧ vp_in (gA h a13 x1.toNatClampNeg) (gN h a15) ∧ (((1 : Int32) = 0 ∨ (1 : Int32) = 1) ∧ (∀ h18, h18 = sA h a15 (gA h a13 x1.toNatClampNeg).toNatClampNeg (1 : Int32) → ((y6 = (-1 : Int32) → (wj_Tab_markChanges_79 Z post K25 v0 x1 h18)) ∧ (¬ y6 = (-1 : Int32) → (gT h18 v0 = 19 ∧ (gT h18 v0 = 19 ∧ (∃ a22, (gR h18 302 v0) = some a22 ∧ gT h18 a22 = 1 ∧ vp_in y6 (gN h18 a22) ∧ (∃ a24, (gR h18 304 v0) = some a24 ∧ gT h18 a24 = 2 ∧ vp_in (gA h18 a22 y6.toNatClampNeg) (gN h18 a24) ∧ (((1 : Int32) = 0 ∨ (1 : Int32) = 1) ∧ (∀ h27, h27 = sA h18 a24 (gA h18 a22 y6.toNatClampNeg).toNatClampNeg (1 : Int32) → (wj_Tab_markChanges_79 Z post K25 v0 x1 h27))))))))))))))))))))))))
def wb_Tab_markChanges_2 (Z : Nat → Nat) (post : HS → Prop) (v0 : Nat) (K2 : Int32 × HS → Prop) : Int32 × HS → Prop := fun q => match q with
  | (x1, h) =>
  gT h v0 = 19 ∧ (((gI h 306 v0) ≤ x1 → (lp (wb_Tab_markChanges_25 Z post v0) ((0 : Int32), h))) ∧ (¬ (gI h 306 v0) ≤ x1 → (gT h v0 = 19 ∧ (∃ a4, (gR h 304 v0) = some a4 ∧ gT h a4 = 2 ∧ vp_in x1 (gN h a4) ∧ (((0 : Int32) = 0 ∨ (0 : Int32) = 1) ∧ (∀ h7, h7 = sA h a4 x1.toNatClampNeg (0 : Int32) → (∀ y8, y8 = x1 + (1 : Int32) → (K2 (y8, h7)))))))))
def wp_Tab_markChanges (Z : Nat → Nat) (post : HS → Prop) (h : HS) (v0 : Nat)  : Prop :=
  lp (wb_Tab_markChanges_2 Z post v0) ((0 : Int32), h)
/-- NetJoins$NetTable.leastPin(I)I -/
def wj_Tab_leastPin_35 (Z : Nat → Nat) (post : Int32 → HS → Prop) (K2 : Int32 × Int32 × HS → Prop) (v0 : Nat) (x1 : Int32) (x2 : Int32) (h : HS) : Prop :=
  ∀ y1, y1 = x2 + (1 : Int32) → (K2 (x1, y1, h))
def wb_Tab_leastPin_2 (Z : Nat → Nat) (post : Int32 → HS → Prop) (v0 : Nat) (K2 : Int32 × Int32 × HS → Prop) : Int32 × Int32 × HS → Prop := fun q => match q with
  | (x1, x2, h) =>
  gT h v0 = 19 ∧ (((gI h 306 v0) ≤ x2 → (post (-1 : Int32) h)) ∧ (¬ (gI h 306 v0) ≤ x2 → (gT h v0 = 19 ∧ (∃ a4, (gR h 300 v0) = some a4 ∧ gT h a4 = 1 ∧ vp_in x2 (gN h a4) ∧ ((¬ (gA h a4 x2.toNatClampNeg) = x2 → (wj_Tab_leastPin_35 Z post K2 v0 x1 x2 h)) ∧ ((gA h a4 x2.toNatClampNeg) = x2 → (gT h v0 = 19 ∧ (∃ a8, (gR h 302 v0) = some a8 ∧ gT h a8 = 1 ∧ vp_in x2 (gN h a8) ∧ ((¬ (gA h a8 x2.toNatClampNeg) = x1 → (wj_Tab_leastPin_35 Z post K2 v0 x1 x2 h)) ∧ ((gA h a8 x2.toNatClampNeg) = x1 → ((¬ (16 : Int32) = 0) ∧ (post (x2 / (16 : Int32)) h))))))))))))
def wp_Tab_leastPin (Z : Nat → Nat) (post : Int32 → HS → Prop) (h : HS) (v0 : Nat) (x1 : Int32) : Prop :=
  lp (wb_Tab_leastPin_2 Z post v0) (x1, (0 : Int32), h)
/-- NetJoins$NetTable.changedCount()I -/
def wj_Tab_changedCount_24 (Z : Nat → Nat) (post : Int32 → HS → Prop) (K4 : Int32 × Int32 × HS → Prop) (v0 : Nat) (x1 : Int32) (x2 : Int32) (h : HS) : Prop :=
  ∀ y1, y1 = x2 + (1 : Int32) → (K4 (x1, y1, h))
def wb_Tab_changedCount_4 (Z : Nat → Nat) (post : Int32 → HS → Prop) (v0 : Nat) (K4 : Int32 × Int32 × HS → Prop) : Int32 × Int32 × HS → Prop := fun q => match q with
  | (x1, x2, h) =>
  gT h v0 = 19 ∧ (((gI h 305 v0) ≤ x2 → (post x1 h)) ∧ (¬ (gI h 305 v0) ≤ x2 → (gT h v0 = 19 ∧ (∃ a4, (gR h 304 v0) = some a4 ∧ gT h a4 = 2 ∧ vp_in x2 (gN h a4) ∧ (((gA h a4 x2.toNatClampNeg) = 0 → (wj_Tab_changedCount_24 Z post K4 v0 x1 x2 h)) ∧ (¬ (gA h a4 x2.toNatClampNeg) = 0 → (∀ y7, y7 = x1 + (1 : Int32) → (wj_Tab_changedCount_24 Z post K4 v0 y7 x2 h))))))))
def wp_Tab_changedCount (Z : Nat → Nat) (post : Int32 → HS → Prop) (h : HS) (v0 : Nat)  : Prop :=
  lp (wb_Tab_changedCount_4 Z post v0) ((0 : Int32), (0 : Int32), h)
