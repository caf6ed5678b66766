/-- NetJoins$Joins.node(II)I -/
def wp_Joins_node (Z : Nat → Nat) (post : Int32 → HS → Prop) (h : HS) (x0 : Int32) (x1 : Int32) : Prop :=
  post ((x0 <<< ((11 : Int32) &&& 31)) + x1) h
/-- NetJoins$Joins.scatterRow(I)V -/
def wb_Joins_scatterRow_9 (Z : Nat → Nat) (post : HS → Prop) (v0 : Nat) (K9 : Int32 × Option Nat × Int32 × HS → Prop) : Int32 × Option Nat × Int32 × HS → Prop := fun q => match q with
  | (x1, x2, x3, h) =>
  ∃ a1, x2 = some a1 ∧ gT h a1 ≠ 0 ∧ gT h a1 < 6 ∧ (((nI (gN h a1)) ≤ x3 → (post h)) ∧ (¬ (nI (gN h a1)) ≤ x3 → (wp_Joins_node Z (fun r4 h5 => ∃ a6, x2 = some a6 ∧ gT h5 a6 = 1 ∧ vp_in x3 (gN h5 a6) ∧ (∀ h8, h8 = sA h5 a6 x3.toNatClampNeg r4 → (∀ y9, y9 = x3 + (1 : Int32) → (K9 (x1, x2, y9, h8))))) h x1 x3)))
def wp_Joins_scatterRow (Z : Nat → Nat) (post : HS → Prop) (h : HS) (v0 : Nat) (x1 : Int32) : Prop :=
  gT h v0 = 18 ∧ (∃ a2, (gR h 200 v0) = some a2 ∧ gT h a2 = 5 ∧ vp_in x1 (gN h a2) ∧ (∀ y4, y4 = (gQ h a2 x1.toNatClampNeg) → (lp (wb_Joins_scatterRow_9 Z post v0) (x1, y4, (0 : Int32), h))))
/-- NetJoins$Joins.has(I)Z -/
def wp_Joins_has (Z : Nat → Nat) (post : Int32 → HS → Prop) (h : HS) (v0 : Nat) (x1 : Int32) : Prop :=
  ∀ y1, y1 = (x1 >>> ((11 : Int32) &&& 31)) → ((y1 < 0 → (post (0 : Int32) h)) ∧ (¬ y1 < 0 → (gT h v0 = 18 ∧ (∃ a4, (gR h 200 v0) = some a4 ∧ gT h a4 ≠ 0 ∧ gT h a4 < 6 ∧ (((nI (gN h a4)) ≤ y1 → (post (0 : Int32) h)) ∧ (¬ (nI (gN h a4)) ≤ y1 → (gT h v0 = 18 ∧ (∃ a8, (gR h 200 v0) = some a8 ∧ gT h a8 = 5 ∧ vp_in y1 (gN h a8) ∧ (∃ a10, (gQ h a8 y1.toNatClampNeg) = some a10 ∧ gT h a10 ≠ 0 ∧ gT h a10 < 6 ∧ (((nI (gN h a10)) ≤ (x1 &&& (2047 : Int32)) → (post (0 : Int32) h)) ∧ (¬ (nI (gN h a10)) ≤ (x1 &&& (2047 : Int32)) → (post (1 : Int32) h))))))))))))
/-- NetJoins$Joins.climb(I)I -/
def wb_Joins_climb_4 (Z : Nat → Nat) (post : Int32 → HS → Prop) (v0 : Nat) (K4 : Int32 × Int32 × HS → Prop) : Int32 × Int32 × HS → Prop := fun q => match q with
  | (x2, x3, h) =>
  ((1000000 : Int32) ≤ x3 → (post x2 h)) ∧ (¬ (1000000 : Int32) ≤ x3 → (gT h v0 = 18 ∧ (∃ a3, (gR h 200 v0) = some a3 ∧ gT h a3 = 5 ∧ vp_in (x2 >>> ((11 : Int32) &&& 31)) (gN h a3) ∧ (∃ a5, (gQ h a3 (x2 >>> ((11 : Int32) &&& 31)).toNatClampNeg) = some a5 ∧ gT h a5 = 1 ∧ vp_in (x2 &&& (2047 : Int32)) (gN h a5) ∧ (∀ y7, y7 = (gA h a5 (x2 &&& (2047 : Int32)).toNatClampNeg) → ((¬ y7 = x2 → (gT h v0 = 18 ∧ (∃ a10, (gR h 200 v0) = some a10 ∧ gT h a10 = 5 ∧ vp_in (y7 >>> ((11 : Int32) &&& 31)) (gN h a10) ∧ (∃ a12, (gQ h a10 (y7 >>> ((11 : Int32) &&& 31)).toNatClampNeg) = some a12 ∧ gT h a12 = 1 ∧ vp_in (y7 &&& (2047 : Int32)) (gN h a12) ∧ (∀ y14, y14 = (gA h a12 (y7 &&& (2047 : Int32)).toNatClampNeg) → (gT h v0 = 18 ∧ (∃ a16, (gR h 200 v0) = some a16 ∧ gT h a16 = 5 ∧ vp_in (x2 >>> ((11 : Int32) &&& 31)) (gN h a16) ∧ (∃ a18, (gQ h a16 (x2 >>> ((11 : Int32) &&& 31)).toNatClampNeg) = some a18 ∧ gT h a18 = 1 ∧ vp_in (x2 &&& (2047 : Int32)) (gN h a18) ∧ (∀ h20, h20 = sA h a18 (x2 &&& (2047 : Int32)).toNatClampNeg y14 → (∀ y21, y21 = x3 + (1 : Int32) → (K4 (y14, y21, h20)))))))))))) ∧ (y7 = x2 → (post x2 h))))))))
def wp_Joins_climb (Z : Nat → Nat) (post : Int32 → HS → Prop) (h : HS) (v0 : Nat) (x1 : Int32) : Prop :=
  lp (wb_Joins_climb_4 Z post v0) (x1, (0 : Int32), h)
/-- NetJoins$Joins.root(I)I -/
def wp_Joins_root (Z : Nat → Nat) (post : Int32 → HS → Prop) (h : HS) (v0 : Nat) (x1 : Int32) : Prop :=
  gT h v0 = 18 ∧ (wp_Joins_has Z (fun r1 h2 => (r1 = 0 → (post x1 h2)) ∧ (¬ r1 = 0 → (gT h2 v0 = 18 ∧ (wp_Joins_climb Z (fun r5 h6 => post r5 h6) h2 v0 x1)))) h v0 x1)
/-- NetJoins$Joins.join(II)V -/
def wp_Joins_join (Z : Nat → Nat) (post : HS → Prop) (h : HS) (v0 : Nat) (x1 : Int32) (x2 : Int32) : Prop :=
  gT h v0 = 18 ∧ (wp_Joins_has Z (fun r1 h2 => (r1 = 0 → (post h2)) ∧ (¬ r1 = 0 → (gT h2 v0 = 18 ∧ (wp_Joins_has Z (fun r5 h6 => (¬ r5 = 0 → (gT h6 v0 = 18 ∧ (wp_Joins_climb Z (fun r9 h10 => gT h10 v0 = 18 ∧ (wp_Joins_climb Z (fun r12 h13 => ∀ y15, y15 = (if r12 < r9 then r12 else r9) → (∀ y16, y16 = (if r9 < r12 then r12 else r9) → (gT h13 v0 = 18 ∧ (∃ a18, (gR h13 200 v0) = some a18 ∧ gT h13 a18 = 5 ∧ vp_in (y16 >>> ((11 : Int32) &&& 31)) (gN h13 a18) ∧ (∃ a20, (gQ h13 a18 (y16 >>> ((11 : Int32) &&& 31)).toNatClampNeg) = some a20 ∧ gT h13 a20 = 1 ∧ vp_in (y16 &&& (2047 : Int32)) (gN h13 a20) ∧ (∀ h22, h22 = sA h13 a20 (y16 &&& (2047 : Int32)).toNatClampNeg y15 → (post h22))))))) h10 v0 x2)) h6 v0 x1))) ∧ (r5 = 0 → (post h6))) h2 v0 x2)))) h v0 x1)
/-- NetJoins$Bus.length()I -/
def wp_Bus_length (Z : Nat → Nat) (post : Int32 → HS → Prop) (h : HS) (v0 : Nat)  : Prop :=
  gT h v0 = 17 ∧ (gT h v0 = 17 ∧ (post ((if 0 ≤ ((gI h 103 v0) - (gI h 102 v0)) then ((gI h 103 v0) - (gI h 102 v0)) else 0 - ((gI h 103 v0) - (gI h 102 v0))) + (1 : Int32)) h))
/-- NetJoins$Bus.member(I)I -/
def wp_Bus_member (Z : Nat → Nat) (post : Int32 → HS → Prop) (h : HS) (v0 : Nat) (x1 : Int32) : Prop :=
  gT h v0 = 17 ∧ (gT h v0 = 17 ∧ (((gI h 103 v0) < (gI h 102 v0) → (gT h v0 = 17 ∧ (post ((gI h 102 v0) - x1) h))) ∧ (¬ (gI h 103 v0) < (gI h 102 v0) → (gT h v0 = 17 ∧ (post ((gI h 102 v0) + x1) h)))))
/-- NetJoins$Bus.<init>(IIII)V -/
def wp_Bus_init (Z : Nat → Nat) (post : HS → Prop) (h : HS) (v0 : Nat) (x1 : Int32) (x2 : Int32) (x3 : Int32) (x4 : Int32) : Prop :=
  gT h v0 = 17 ∧ (∀ h2, h2 = sI h 100 v0 x1 → (gT h2 v0 = 17 ∧ (∀ h4, h4 = sI h2 101 v0 x2 → (gT h4 v0 = 17 ∧ (∀ h6, h6 = sI h4 102 v0 x3 → (gT h6 v0 = 17 ∧ (∀ h8, h8 = sI h6 103 v0 x4 → (post h8))))))))
/-- NetJoins$Port.<init>(IIIII)V -/
def wp_Port_init (Z : Nat → Nat) (post : HS → Prop) (h : HS) (v0 : Nat) (x1 : Int32) (x2 : Int32) (x3 : Int32) (x4 : Int32) (x5 : Int32) : Prop :=
  gT h v0 = 20 ∧ (∀ h2, h2 = sI h 400 v0 x1 → (gT h2 v0 = 20 ∧ (∀ h4, h4 = sI h2 401 v0 x2 → (gT h4 v0 = 20 ∧ (∀ h6, h6 = sI h4 402 v0 x3 → (gT h6 v0 = 20 ∧ (∀ h8, h8 = sI h6 403 v0 x4 → (gT h8 v0 = 20 ∧ (∀ h10, h10 = sI h8 404 v0 x5 → (post h10))))))))))
/-- NetJoins$Sheet.<init>(IIII)V -/
def wp_Sheet_init (Z : Nat → Nat) (post : HS → Prop) (h : HS) (v0 : Nat) (x1 : Int32) (x2 : Int32) (x3 : Int32) (x4 : Int32) : Prop :=
  gT h v0 = 21 ∧ (∀ h2, h2 = sI h 500 v0 x1 → (gT h2 v0 = 21 ∧ (∀ h4, h4 = sI h2 501 v0 x2 → (gT h4 v0 = 21 ∧ (∀ h6, h6 = sI h4 502 v0 x3 → (gT h6 v0 = 21 ∧ (∀ h8, h8 = sI h6 503 v0 x4 → (gT h8 v0 = 21 ∧ (∀ h10, h10 = sI h8 504 v0 (1 : Int32) → (post h10))))))))))
/-- NetJoins$Spot.isAt(IJJ)Z -/
def wp_Spot_isAt (Z : Nat → Nat) (post : Int32 → HS → Prop) (h : HS) (v0 : Nat) (x1 : Int32) (x2 : Int64) (x4 : Int64) : Prop :=
  gT h v0 = 22 ∧ ((¬ (gI h 600 v0) = x1 → (post (0 : Int32) h)) ∧ ((gI h 600 v0) = x1 → (gT h v0 = 22 ∧ ((¬ (lg_cmp (gJ h 601 v0) x2) = 0 → (post (0 : Int32) h)) ∧ ((lg_cmp (gJ h 601 v0) x2) = 0 → (gT h v0 = 22 ∧ ((¬ (lg_cmp (gJ h 602 v0) x4) = 0 → (post (0 : Int32) h)) ∧ ((lg_cmp (gJ h 602 v0) x4) = 0 → (post (1 : Int32) h)))))))))
/-- NetJoins$Spot.<init>(IJJII)V -/
def wp_Spot_init (Z : Nat → Nat) (post : HS → Prop) (h : HS) (v0 : Nat) (x1 : Int32) (x2 : Int64) (x4 : Int64) (x6 : Int32) (x7 : Int32) : Prop :=
  gT h v0 = 22 ∧ (∀ h2, h2 = sI h 600 v0 x1 → (gT h2 v0 = 22 ∧ (∀ h4, h4 = sJ h2 601 v0 x2 → (gT h4 v0 = 22 ∧ (∀ h6, h6 = sJ h4 602 v0 x4 → (gT h6 v0 = 22 ∧ (∀ h8, h8 = sI h6 603 v0 x6 → (gT h8 v0 = 22 ∧ (∀ h10, h10 = sI h8 604 v0 x7 → (post h10))))))))))
/-- NetJoins$Wire.isOn(I)Z -/
def wp_Wire_isOn (Z : Nat → Nat) (post : Int32 → HS → Prop) (h : HS) (v0 : Nat) (x1 : Int32) : Prop :=
  gT h v0 = 23 ∧ ((¬ (gI h 706 v0) = 0 → (post (0 : Int32) h)) ∧ ((gI h 706 v0) = 0 → (gT h v0 = 23 ∧ ((¬ (gI h 700 v0) = x1 → (post (0 : Int32) h)) ∧ ((gI h 700 v0) = x1 → (post (1 : Int32) h))))))
/-- NetJoins$Wire.goesThrough(LNetJoins$Spot;)Z -/
def wp_Wire_goesThrough (Z : Nat → Nat) (post : Int32 → HS → Prop) (h : HS) (v0 : Nat) (x1 : Option Nat) : Prop :=
  ∃ a1, x1 = some a1 ∧ gT h a1 = 22 ∧ (gT h v0 = 23 ∧ (wp_Wire_isOn Z (fun r3 h4 => (r3 = 0 → (post (0 : Int32) h4)) ∧ (¬ r3 = 0 → (∃ a7, x1 = some a7 ∧ gT h4 a7 = 22 ∧ (gT h4 v0 = 23 ∧ (gT h4 v0 = 23 ∧ (((lg_cmp (gJ h4 601 a7) (if (gJ h4 704 v0) < (gJ h4 702 v0) then (gJ h4 704 v0) else (gJ h4 702 v0))) < 0 → (post (0 : Int32) h4)) ∧ (¬ (lg_cmp (gJ h4 601 a7) (if (gJ h4 704 v0) < (gJ h4 702 v0) then (gJ h4 704 v0) else (gJ h4 702 v0))) < 0 → (∃ a12, x1 = some a12 ∧ gT h4 a12 = 22 ∧ (gT h4 v0 = 23 ∧ (gT h4 v0 = 23 ∧ ((0 < (lg_cmp (gJ h4 601 a12) (if (gJ h4 704 v0) < (gJ h4 702 v0) then (gJ h4 702 v0) else (gJ h4 704 v0))) → (post (0 : Int32) h4)) ∧ (¬ 0 < (lg_cmp (gJ h4 601 a12) (if (gJ h4 704 v0) < (gJ h4 702 v0) then (gJ h4 702 v0) else (gJ h4 704 v0))) → (∃ a17, x1 = some a17 ∧ gT h4 a17 = 22 ∧ (gT h4 v0 = 23 ∧ (gT h4 v0 = 23 ∧ (((lg_cmp (gJ h4 602 a17) (if (gJ h4 705 v0) < (gJ h4 703 v0) then (gJ h4 705 v0) else (gJ h4 703 v0))) < 0 → (post (0 : Int32) h4)) ∧ (¬ (lg_cmp (gJ h4 602 a17) (if (gJ h4 705 v0) < (gJ h4 703 v0) then (gJ h4 705 v0) else (gJ h4 703 v0))) < 0 → (∃ a22, x1 = some a22 ∧ gT h4 a22 = 22 ∧ (gT h4 v0 = 23 ∧ (gT h4 v0 = 23 ∧ ((0 < (lg_cmp (gJ h4 602 a22) (if (gJ h4 705 v0) < (gJ h4 703 v0) then (gJ h4 703 v0) else (gJ h4 705 v0))) → (post (0 : Int32) h4)) ∧ (¬ 0 < (lg_cmp (gJ h4 602 a22) (if (gJ h4 705 v0) < (gJ h4 703 v0) then (gJ h4 703 v0) else (gJ h4 705 v0))) → (gT h4 v0 = 23 ∧ (gT h4 v0 = 23 ∧ (∃ a29, x1 = some a29 ∧ gT h4 a29 = 22 ∧ (gT h4 v0 = 23 ∧ (gT h4 v0 = 23 ∧ (gT h4 v0 = 23 ∧ (∃ a34, x1 = some a34 ∧ gT h4 a34 = 22 ∧ (gT h4 v0 = 23 ∧ ((¬ (lg_cmp (((gJ h4 704 v0) - (gJ h4 702 v0)) * ((gJ h4 602 a29) - (gJ h4 703 v0))) (((gJ h4 705 v0) - (gJ h4 703 v0)) * ((gJ h4 601 a34) - (gJ h4 702 v0)))) = 0 → (post (0 : Int32) h4)) ∧ ((lg_cmp (((gJ h4 704 v0) - (gJ h4 702 v0)) * ((gJ h4 602 a29) - (gJ h4 703 v0))) (((gJ h4 705 v0) - (gJ h4 703 v0)) * ((gJ h4 601 a34) - (gJ h4 702 v0)))) = 0 → (post (1 : Int32) h4))))))))))))))))))))))))))))))))) h v0 (gI h 600 a1)))
/-- NetJoins$Wire.hasEnd(JJ)Z -/
def wj_Wire_hasEnd_18 (Z : Nat → Nat) (post : Int32 → HS → Prop) (v0 : Nat) (x1 : Int64) (x3 : Int64) (h : HS) : Prop :=
  gT h v0 = 23 ∧ ((¬ (lg_cmp (gJ h 704 v0) x1) = 0 → (post (0 : Int32) h)) ∧ ((lg_cmp (gJ h 704 v0) x1) = 0 → (gT h v0 = 23 ∧ ((¬ (lg_cmp (gJ h 705 v0) x3) = 0 → (post (0 : Int32) h)) ∧ ((lg_cmp (gJ h 705 v0) x3) = 0 → (post (1 : Int32) h))))))
def wp_Wire_hasEnd (Z : Nat → Nat) (post : Int32 → HS → Prop) (h : HS) (v0 : Nat) (x1 : Int64) (x3 : Int64) : Prop :=
  gT h v0 = 23 ∧ ((¬ (lg_cmp (gJ h 702 v0) x1) = 0 → (wj_Wire_hasEnd_18 Z post v0 x1 x3 h)) ∧ ((lg_cmp (gJ h 702 v0) x1) = 0 → (gT h v0 = 23 ∧ (((lg_cmp (gJ h 703 v0) x3) = 0 → (post (1 : Int32) h)) ∧ (¬ (lg_cmp (gJ h 703 v0) x3) = 0 → (wj_Wire_hasEnd_18 Z post v0 x1 x3 h))))))
/-- NetJoins$Wire.hasCommonEnd(LNetJoins$Wire;)Z -/
def wp_Wire_hasCommonEnd (Z : Nat → Nat) (post : Int32 → HS → Prop) (h : HS) (v0 : Nat) (x1 : Option Nat) : Prop :=
  ∃ a1, x1 = some a1 ∧ gT h a1 = 23 ∧ (∃ a3, x1 = some a3 ∧ gT h a3 = 23 ∧ (gT h v0 = 23 ∧ (wp_Wire_hasEnd Z (fun r5 h6 => (¬ r5 = 0 → (post (1 : Int32) h6)) ∧ (r5 = 0 → (∃ a9, x1 = some a9 ∧ gT h6 a9 = 23 ∧ (∃ a11, x1 = some a11 ∧ gT h6 a11 = 23 ∧ (gT h6 v0 = 23 ∧ (wp_Wire_hasEnd Z (fun r13 h14 => (r13 = 0 → (post (0 : Int32) h14)) ∧ (¬ r13 = 0 → (post (1 : Int32) h14))) h6 v0 (gJ h6 704 a9) (gJ h6 705 a11))))))) h v0 (gJ h 702 a1) (gJ h 703 a3))))
/-- NetJoins$Wire.<init>(IIJJJJ)V -/
def wp_Wire_init (Z : Nat → Nat) (post : HS → Prop) (h : HS) (v0 : Nat) (x1 : Int32) (x2 : Int32) (x3 : Int64) (x5 : Int64) (x7 : Int64) (x9 : Int64) : Prop :=
  gT h v0 = 23 ∧ (∀ h2, h2 = sI h 700 v0 x1 → (gT h2 v0 = 23 ∧ (∀ h4, h4 = sI h2 701 v0 x2 → (gT h4 v0 = 23 ∧ (∀ h6, h6 = sJ h4 702 v0 x3 → (gT h6 v0 = 23 ∧ (∀ h8, h8 = sJ h6 703 v0 x5 → (gT h8 v0 = 23 ∧ (∀ h10, h10 = sJ h8 704 v0 x7 → (gT h10 v0 = 23 ∧ (∀ h12, h12 = sJ h10 705 v0 x9 → (post h12))))))))))))
