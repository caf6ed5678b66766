/-- NetJoins$Joins.node(II)I -/
def wp_Joins_node (post : Int32 → HS → Prop) (h : HS) (x0 : Int32) (x1 : Int32) : Prop :=
  post ((x0 <<< ((11 : Int32) &&& 31)) + x1) h
/-- NetJoins$Joins.scatterRow(I)V -/
def wb_Joins_scatterRow_9 (post : HS → Prop) (v0 : Nat) (K9 : Int32 × Option Nat × Int32 × HS → Prop) : Int32 × Option Nat × Int32 × HS → Prop := fun q => match q with
  | (x1, x2, x3, h) =>
  ∃ a1, x2 = some a1 ∧ gT h a1 ≠ 0 ∧ gT h a1 < 6 ∧ (((nI (gN h a1)) ≤ x3 → (post h)) ∧ (¬ (nI (gN h a1)) ≤ x3 → (wp_Joins_node (fun r4 h5 => ∃ a6, x2 = some a6 ∧ gT h5 a6 = 1 ∧ vp_in x3 (gN h5 a6) ∧ (∀ h8, h8 = sA h5 a6 x3.toNatClampNeg r4 → (∀ y9, y9 = x3 + (1 : Int32) → (K9 (x1, x2, y9, h8))))) h x1 x3)))
def wp_Joins_scatterRow (post : HS → Prop) (h : HS) (v0 : Nat) (x1 : Int32) : Prop :=
  gT h v0 = 18 ∧ (∃ a2, (gR h 200 v0) = some a2 ∧ gT h a2 = 5 ∧ vp_in x1 (gN h a2) ∧ (∀ y4, y4 = (gQ h a2 x1.toNatClampNeg) → (lp (wb_Joins_scatterRow_9 post v0) (x1, y4, (0 : Int32), h))))
/-- NetJoins$Joins.has(I)Z -/
def wp_Joins_has (post : Int32 → HS → Prop) (h : HS) (v0 : Nat) (x1 : Int32) : Prop :=
  ∀ y1, y1 = (x1 >>> ((11 : Int32) &&& 31)) → ((y1 < 0 → (post (0 : Int32) h)) ∧ (¬ y1 < 0 → (gT h v0 = 18 ∧ (∃ a4, (gR h 200 v0) = some a4 ∧ gT h a4 ≠ 0 ∧ gT h a4 < 6 ∧ (((nI (gN h a4)) ≤ y1 → (post (0 : Int32) h)) ∧ (¬ (nI (gN h a4)) ≤ y1 → (gT h v0 = 18 ∧ (∃ a8, (gR h 200 v0) = some a8 ∧ gT h a8 = 5 ∧ vp_in y1 (gN h a8) ∧ (∃ a10, (gQ h a8 y1.toNatClampNeg) = some a10 ∧ gT h a10 ≠ 0 ∧ gT h a10 < 6 ∧ (((nI (gN h a10)) ≤ (x1 &&& (2047 : Int32)) → (post (0 : Int32) h)) ∧ (¬ (nI (gN h a10)) ≤ (x1 &&& (2047 : Int32)) → (post (1 : Int32) h))))))))))))
/-- NetJoins$Joins.climb(I)I -/
def wb_Joins_climb_4 (post : Int32 → HS → Prop) (v0 : Nat) (K4 : Int32 × Int32 × HS → Prop) : Int32 × Int32 × HS → Prop := fun q => match q with
  | (x2, x3, h) =>
  ((1000000 : Int32) ≤ x3 → (post x2 h)) ∧ (¬ (1000000 : Int32) ≤ x3 → (gT h v0 = 18 ∧ (∃ a3, (gR h 200 v0) = some a3 ∧ gT h a3 = 5 ∧ vp_in (x2 >>> ((11 : Int32) &&& 31)) (gN h a3) ∧ (∃ a5, (gQ h a3 (x2 >>> ((11 : Int32) &&& 31)).toNatClampNeg) = some a5 ∧ gT h a5 = 1 ∧ vp_in (x2 &&& (2047 : Int32)) (gN h a5) ∧ (∀ y7, y7 = (gA h a5 (x2 &&& (2047 : Int32)).toNatClampNeg) → ((¬ y7 = x2 → (gT h v0 = 18 ∧ (∃ a10, (gR h 200 v0) = some a10 ∧ gT h a10 = 5 ∧ vp_in (y7 >>> ((11 : Int32) &&& 31)) (gN h a10) ∧ (∃ a12, (gQ h a10 (y7 >>> ((11 : Int32) &&& 31)).toNatClampNeg) = some a12 ∧ gT h a12 = 1 ∧ vp_in (y7 &&& (2047 : Int32)) (gN h a12) ∧ (∀ y14, y14 = (gA h a12 (y7 &&& (2047 : Int32)).toNatClampNeg) → (gT h v0 = 18 ∧ (∃ a16, (gR h 200 v0) = some a16 ∧ gT h a16 = 5 ∧ vp_in (x2 >>> ((11 : Int32) &&& 31)) (gN h a16) ∧ (∃ a18, (gQ h a16 (x2 >>> ((11 : Int32) &&& 31)).toNatClampNeg) = some a18 ∧ gT h a18 = 1 ∧ vp_in (x2 &&& (2047 : Int32)) (gN h a18) ∧ (∀ h20, h20 = sA h a18 (x2 &&& (2047 : Int32)).toNatClampNeg y14 → (∀ y21, y21 = x3 + (1 : Int32) → (K4 (y14, y21, h20)))))))))))) ∧ (y7 = x2 → (post x2 h))))))))
def wp_Joins_climb (post : Int32 → HS → Prop) (h : HS) (v0 : Nat) (x1 : Int32) : Prop :=
  lp (wb_Joins_climb_4 post v0) (x1, (0 : Int32), h)
/-- NetJoins$Joins.root(I)I -/
def wp_Joins_root (post : Int32 → HS → Prop) (h : HS) (v0 : Nat) (x1 : Int32) : Prop :=
  gT h v0 = 18 ∧ (wp_Joins_has (fun r1 h2 => (r1 = 0 → (post x1 h2)) ∧ (¬ r1 = 0 → (gT h2 v0 = 18 ∧ (wp_Joins_climb (fun r5 h6 => post r5 h6) h2 v0 x1)))) h v0 x1)
/-- NetJoins$Joins.join(II)V -/
def wp_Joins_join (post : HS → Prop) (h : HS) (v0 : Nat) (x1 : Int32) (x2 : Int32) : Prop :=
  gT h v0 = 18 ∧ (wp_Joins_has (fun r1 h2 => (r1 = 0 → (post h2)) ∧ (¬ r1 = 0 → (gT h2 v0 = 18 ∧ (wp_Joins_has (fun r5 h6 => (¬ r5 = 0 → (gT h6 v0 = 18 ∧ (wp_Joins_climb (fun r9 h10 => gT h10 v0 = 18 ∧ (wp_Joins_climb (fun r12 h13 => ∀ y15, y15 = (if r12 < r9 then r12 else r9) → (∀ y16, y16 = (if r9 < r12 then r12 else r9) → (gT h13 v0 = 18 ∧ (∃ a18, (gR h13 200 v0) = some a18 ∧ gT h13 a18 = 5 ∧ vp_in (y16 >>> ((11 : Int32) &&& 31)) (gN h13 a18) ∧ (∃ a20, (gQ h13 a18 (y16 >>> ((11 : Int32) &&& 31)).toNatClampNeg) = some a20 ∧ gT h13 a20 = 1 ∧ vp_in (y16 &&& (2047 : Int32)) (gN h13 a20) ∧ (∀ h22, h22 = sA h13 a20 (y16 &&& (2047 : Int32)).toNatClampNeg y15 → (post h22))))))) h10 v0 x2)) h6 v0 x1))) ∧ (r5 = 0 → (post h6))) h2 v0 x2)))) h v0 x1)
