/-- NetJoins.nets()I -/
def wp_NJ_nets (Z : Nat → Nat) (post : Int32 → HS → Prop) (h : HS) (v0 : Nat)  : Prop :=
  gT h v0 = 16 ∧ (∃ a2, (gR h 11 v0) = some a2 ∧ gT h a2 = 19 ∧ (post (gI h 305 a2) h))
/-- NetJoins.isPower(I)Z -/
def wp_NJ_isPower (Z : Nat → Nat) (post : Int32 → HS → Prop) (h : HS) (x0 : Int32) : Prop :=
  (x0 < (900 : Int32) → (post (0 : Int32) h)) ∧ (¬ x0 < (900 : Int32) → (post (1 : Int32) h))
/-- NetJoins.nameNode(II)I -/
def wp_NJ_nameNode (Z : Nat → Nat) (post : Int32 → HS → Prop) (h : HS) (x0 : Int32) (x1 : Int32) : Prop :=
  wp_NJ_isPower Z (fun r1 h2 => (r1 = 0 → (wp_Joins_node Z (fun r4 h5 => post r4 h5) h2 ((1 : Int32) + x0) x1)) ∧ (¬ r1 = 0 → (post (((960 : Int32) + x1) - (900 : Int32)) h2))) h x1
/-- NetJoins.netOfLabel(LNetJoins$Spot;LNetJoins$Sheet;)I -/
def wp_NJ_netOfLabel (Z : Nat → Nat) (post : Int32 → HS → Prop) (h : HS) (v0 : Nat) (x1 : Option Nat) (x2 : Option Nat) : Prop :=
  ∃ a1, x2 = some a1 ∧ gT h a1 = 21 ∧ (∃ a3, x1 = some a3 ∧ gT h a3 = 22 ∧ (((gI h 502 a1) = (gI h 600 a3) → (gT h v0 = 16 ∧ (∃ a7, x2 = some a7 ∧ gT h a7 = 21 ∧ (∃ a9, x1 = some a9 ∧ gT h a9 = 22 ∧ (wp_NJ_nameNode Z (fun r11 h12 => ∃ a15, (gR h 10 v0) = some a15 ∧ gT h12 a15 = 18 ∧ (wp_Joins_root Z (fun r13 h14 => ((960 : Int32) ≤ r13 → (post (-1 : Int32) h14)) ∧ (¬ (960 : Int32) ≤ r13 → (gT h14 v0 = 16 ∧ (∃ a19, (gR h14 11 v0) = some a19 ∧ gT h14 a19 = 19 ∧ (∃ a21, (gR h14 302 a19) = some a21 ∧ gT h14 a21 = 1 ∧ vp_in r13 (gN h14 a21) ∧ (post (gA h14 a21 r13.toNatClampNeg) h14)))))) h12 a15 r11)) h (gI h 500 a7) (gI h 603 a9)))))) ∧ (¬ (gI h 502 a1) = (gI h 600 a3) → (post (-1 : Int32) h))))
/-- NetJoins.listNames()V -/
def wj_NJ_listNames_227 (Z : Nat → Nat) (post : HS → Prop) (K143 : Int32 × HS → Prop) (K149 : Int32 × Int32 × HS → Prop) (v0 : Nat) (x1 : Int32) (x2 : Int32) (h : HS) : Prop :=
  ∀ y1, y1 = x2 + (1 : Int32) → (K149 (x1, y1, h))
def wb_NJ_listNames_149 (Z : Nat → Nat) (post : HS → Prop) (K143 : Int32 × HS → Prop) (v0 : Nat) (K149 : Int32 × Int32 × HS → Prop) : Int32 × Int32 × HS → Prop := fun q => match q with
  | (x1, x2, h) =>
  gT h v0 = 16 ∧ (∃ a4, (gR h 0 v0) = some a4 ∧ gT h a4 = 25 ∧ (wp_AL_size Z (fun r2 h3 => (r2 ≤ x2 → (∀ y7, y7 = x1 + (-1 : Int32) → (K143 (y7, h3)))) ∧ (¬ r2 ≤ x2 → (gT h3 v0 = 16 ∧ (∃ a11, (gR h3 4 v0) = some a11 ∧ gT h3 a11 = 25 ∧ (wp_AL_get Z (fun r9 h10 => (∀ z, r9 = some z → gT h10 z = 22) ∧ (gT h10 v0 = 16 ∧ (∃ a17, (gR h10 0 v0) = some a17 ∧ gT h10 a17 = 25 ∧ (wp_AL_get Z (fun r15 h16 => (∀ z, r15 = some z → gT h16 z = 21) ∧ (gT h16 v0 = 16 ∧ (wp_NJ_netOfLabel Z (fun r20 h21 => (r20 = (-1 : Int32) → (wj_NJ_listNames_227 Z post K143 K149 v0 x1 x2 h21)) ∧ (¬ r20 = (-1 : Int32) → (gT h21 v0 = 16 ∧ (∃ a25, (gR h21 12 v0) = some a25 ∧ gT h21 a25 = 1 ∧ vp_in r20 (gN h21 a25) ∧ (∃ a27, (gR h21 12 v0) = some a27 ∧ gT h21 a27 = 1 ∧ vp_in r20 (gN h21 a27) ∧ (∀ h29, h29 = sA h21 a27 r20.toNatClampNeg ((gA h21 a25 r20.toNatClampNeg) - (1 : Int32)) → (gT h29 v0 = 16 ∧ (gT h29 v0 = 16 ∧ (∃ a32, (gR h29 12 v0) = some a32 ∧ gT h29 a32 = 1 ∧ vp_in r20 (gN h29 a32) ∧ (gT h29 v0 = 16 ∧ (∃ a37, (gR h29 4 v0) = some a37 ∧ gT h29 a37 = 25 ∧ (wp_AL_get Z (fun r35 h36 => (∀ z, r35 = some z → gT h36 z = 22) ∧ (∃ a40, r35 = some a40 ∧ gT h36 a40 = 22 ∧ (∃ a42, (gR h29 13 v0) = some a42 ∧ gT h36 a42 = 1 ∧ vp_in (gA h29 a32 r20.toNatClampNeg) (gN h36 a42) ∧ (∀ h44, h44 = sA h36 a42 (gA h29 a32 r20.toNatClampNeg).toNatClampNeg (gI h36 603 a40) → (wj_NJ_listNames_227 Z post K143 K149 v0 x1 x2 h44))))) h29 a37 x1)))))))))))) h16 v0 r9 r15))) h10 a17 x2)))) h3 a11 x1))))) h a4))
def wb_NJ_listNames_143 (Z : Nat → Nat) (post : HS → Prop) (v0 : Nat) (K143 : Int32 × HS → Prop) : Int32 × HS → Prop := fun q => match q with
  | (x1, h) =>
  (x1 < 0 → (gT h v0 = 16 ∧ (((1 : Int32) = 0 ∨ (1 : Int32) = 1) ∧ (∀ h4, h4 = sI h 14 v0 (1 : Int32) → (post h4))))) ∧ (¬ x1 < 0 → (lp (wb_NJ_listNames_149 Z post K143 v0) (x1, (0 : Int32), h)))
def wb_NJ_listNames_99 (Z : Nat → Nat) (post : HS → Prop) (v0 : Nat) (K99 : Int32 × HS → Prop) : Int32 × HS → Prop := fun q => match q with
  | (x1, h) =>
  gT h v0 = 16 ∧ (∃ a2, (gR h 11 v0) = some a2 ∧ gT h a2 = 19 ∧ (((gI h 305 a2) < x1 → (gT h v0 = 16 ∧ (∃ a8, (gR h 4 v0) = some a8 ∧ gT h a8 = 25 ∧ (wp_AL_size Z (fun r6 h7 => ∀ y10, y10 = (r6 - (1 : Int32)) → (lp (wb_NJ_listNames_143 Z post v0) (y10, h7))) h a8)))) ∧ (¬ (gI h 305 a2) < x1 → (gT h v0 = 16 ∧ (∃ a12, (gR h 12 v0) = some a12 ∧ gT h a12 = 1 ∧ vp_in x1 (gN h a12) ∧ (gT h v0 = 16 ∧ (∃ a15, (gR h 12 v0) = some a15 ∧ gT h a15 = 1 ∧ vp_in (x1 - (1 : Int32)) (gN h a15) ∧ (∃ a17, (gR h 12 v0) = some a17 ∧ gT h a17 = 1 ∧ vp_in x1 (gN h a17) ∧ (∀ h19, h19 = sA h a17 x1.toNatClampNeg ((gA h a12 x1.toNatClampNeg) + (gA h a15 (x1 - (1 : Int32)).toNatClampNeg)) → (∀ y20, y20 = x1 + (1 : Int32) → (K99 (y20, h19))))))))))))
def wj_NJ_listNames_85 (Z : Nat → Nat) (post : HS → Prop) (K26 : Int32 × HS → Prop) (K32 : Int32 × Int32 × HS → Prop) (v0 : Nat) (x1 : Int32) (x2 : Int32) (h : HS) : Prop :=
  ∀ y1, y1 = x2 + (1 : Int32) → (K32 (x1, y1, h))
def wb_NJ_listNames_32 (Z : Nat → Nat) (post : HS → Prop) (K26 : Int32 × HS → Prop) (v0 : Nat) (K32 : Int32 × Int32 × HS → Prop) : Int32 × Int32 × HS → Prop := fun q => match q with
  | (x1, x2, h) =>
  gT h v0 = 16 ∧ (∃ a4, (gR h 0 v0) = some a4 ∧ gT h a4 = 25 ∧ (wp_AL_size Z (fun r2 h3 => (r2 ≤ x2 → (∀ y7, y7 = x1 + (-1 : Int32) → (K26 (y7, h3)))) ∧ (¬ r2 ≤ x2 → (gT h3 v0 = 16 ∧ (∃ a11, (gR h3 4 v0) = some a11 ∧ gT h3 a11 = 25 ∧ (wp_AL_get Z (fun r9 h10 => (∀ z, r9 = some z → gT h10 z = 22) ∧ (gT h10 v0 = 16 ∧ (∃ a17, (gR h10 0 v0) = some a17 ∧ gT h10 a17 = 25 ∧ (wp_AL_get Z (fun r15 h16 => (∀ z, r15 = some z → gT h16 z = 21) ∧ (gT h16 v0 = 16 ∧ (wp_NJ_netOfLabel Z (fun r20 h21 => (r20 = (-1 : Int32) → (wj_NJ_listNames_85 Z post K26 K32 v0 x1 x2 h21)) ∧ (¬ r20 = (-1 : Int32) → (gT h21 v0 = 16 ∧ (∃ a25, (gR h21 12 v0) = some a25 ∧ gT h21 a25 = 1 ∧ vp_in r20 (gN h21 a25) ∧ (∃ a27, (gR h21 12 v0) = some a27 ∧ gT h21 a27 = 1 ∧ vp_in r20 (gN h21 a27) ∧ (∀ h29, h29 = sA h21 a27 r20.toNatClampNeg ((gA h21 a25 r20.toNatClampNeg) + (1 : Int32)) → (wj_NJ_listNames_85 Z post K26 K32 v0 x1 x2 h29))))))) h16 v0 r9 r15))) h10 a17 x2)))) h3 a11 x1))))) h a4))
def wb_NJ_listNames_26 (Z : Nat → Nat) (post : HS → Prop) (v0 : Nat) (K26 : Int32 × HS → Prop) : Int32 × HS → Prop := fun q => match q with
  | (x1, h) =>
  (x1 < 0 → (lp (wb_NJ_listNames_99 Z post v0) ((1 : Int32), h))) ∧ (¬ x1 < 0 → (lp (wb_NJ_listNames_32 Z post K26 v0) (x1, (0 : Int32), h)))
def wp_NJ_listNames (Z : Nat → Nat) (post : HS → Prop) (h : HS) (v0 : Nat)  : Prop :=
  gT h v0 = 16 ∧ (((gI h 14 v0) = 0 → (gT h v0 = 16 ∧ (wp_ARR_fill Z (fun h5 => gT h5 v0 = 16 ∧ (∃ a9, (gR h5 4 v0) = some a9 ∧ gT h5 a9 = 25 ∧ (wp_AL_size Z (fun r7 h8 => ∀ y11, y11 = (r7 - (1 : Int32)) → (lp (wb_NJ_listNames_26 Z post v0) (y11, h8))) h5 a9))) h (gR h 12 v0) (0 : Int32)))) ∧ (¬ (gI h 14 v0) = 0 → (post h)))
/-- NetJoins.bestName(I)I -/
def wj_NJ_bestName_53 (Z : Nat → Nat) (post : Int32 → HS → Prop) (K9 : Int32 × Int32 × Int32 × HS → Prop) (v0 : Nat) (x1 : Int32) (x2 : Int32) (x3 : Int32) (h : HS) : Prop :=
  ∀ y1, y1 = x3 + (1 : Int32) → (K9 (x1, x2, y1, h))
def wj_NJ_bestName_46 (Z : Nat → Nat) (post : Int32 → HS → Prop) (K9 : Int32 × Int32 × Int32 × HS → Prop) (v0 : Nat) (x1 : Int32) (x3 : Int32) (h : HS) : Prop :=
  gT h v0 = 16 ∧ (∃ a2, (gR h 13 v0) = some a2 ∧ gT h a2 = 1 ∧ vp_in x3 (gN h a2) ∧ (∀ y4, y4 = (gA h a2 x3.toNatClampNeg) → (wj_NJ_bestName_53 Z post K9 v0 x1 y4 x3 h)))
def wb_NJ_bestName_9 (Z : Nat → Nat) (post : Int32 → HS → Prop) (v0 : Nat) (K9 : Int32 × Int32 × Int32 × HS → Prop) : Int32 × Int32 × Int32 × HS → Prop := fun q => match q with
  | (x1, x2, x3, h) =>
  gT h v0 = 16 ∧ (∃ a2, (gR h 12 v0) = some a2 ∧ gT h a2 = 1 ∧ vp_in (x1 + (1 : Int32)) (gN h a2) ∧ (((gA h a2 (x1 + (1 : Int32)).toNatClampNeg) ≤ x3 → (post x2 h)) ∧ (¬ (gA h a2 (x1 + (1 : Int32)).toNatClampNeg) ≤ x3 → ((x2 = (-1 : Int32) → (wj_NJ_bestName_46 Z post K9 v0 x1 x3 h)) ∧ (¬ x2 = (-1 : Int32) → (gT h v0 = 16 ∧ (gT h v0 = 16 ∧ (∃ a8, (gR h 13 v0) = some a8 ∧ gT h a8 = 1 ∧ vp_in x3 (gN h a8) ∧ (∃ a10, (gR h 8 v0) = some a10 ∧ gT h a10 = 1 ∧ vp_in (gA h a8 x3.toNatClampNeg) (gN h a10) ∧ (gT h v0 = 16 ∧ (∃ a13, (gR h 8 v0) = some a13 ∧ gT h a13 = 1 ∧ vp_in x2 (gN h a13) ∧ (((gA h a10 (gA h a8 x3.toNatClampNeg).toNatClampNeg) ≤ (gA h a13 x2.toNatClampNeg) → (wj_NJ_bestName_53 Z post K9 v0 x1 x2 x3 h)) ∧ (¬ (gA h a10 (gA h a8 x3.toNatClampNeg).toNatClampNeg) ≤ (gA h a13 x2.toNatClampNeg) → (wj_NJ_bestName_46 Z post K9 v0 x1 x3 h))))))))))))))
def wp_NJ_bestName (Z : Nat → Nat) (post : Int32 → HS → Prop) (h : HS) (v0 : Nat) (x1 : Int32) : Prop :=
  gT h v0 = 16 ∧ (∃ a2, (gR h 12 v0) = some a2 ∧ gT h a2 = 1 ∧ vp_in x1 (gN h a2) ∧ (∀ y4, y4 = (gA h a2 x1.toNatClampNeg) → (lp (wb_NJ_bestName_9 Z post v0) (x1, (-1 : Int32), y4, h))))
/-- NetJoins.remark(I)V -/
def wp_NJ_remark (Z : Nat → Nat) (post : HS → Prop) (h : HS) (v0 : Nat) (x1 : Int32) : Prop :=
  gT h v0 = 16 ∧ (gT h v0 = 16 ∧ (∃ a3, (gR h 15 v0) = some a3 ∧ gT h a3 ≠ 0 ∧ gT h a3 < 6 ∧ (((nI (gN h a3)) ≤ (gI h 16 v0) → (post h)) ∧ (¬ (nI (gN h a3)) ≤ (gI h 16 v0) → (gT h v0 = 16 ∧ (gT h v0 = 16 ∧ (∃ a8, (gR h 15 v0) = some a8 ∧ gT h a8 = 1 ∧ vp_in (gI h 16 v0) (gN h a8) ∧ (∀ h10, h10 = sA h a8 (gI h 16 v0).toNatClampNeg x1 → (gT h10 v0 = 16 ∧ (gT h10 v0 = 16 ∧ (∀ h13, h13 = sI h10 16 v0 ((gI h10 16 v0) + (1 : Int32)) → (post h13))))))))))))
/-- NetJoins.remarkOtherNames(I)V -/
def wj_NJ_remarkOtherNames_62 (Z : Nat → Nat) (post : HS → Prop) (K16 : Int32 × Int32 × Int32 × Int32 × HS → Prop) (v0 : Nat) (x1 : Int32) (x2 : Int32) (x4 : Int32) (x5 : Int32) (h : HS) : Prop :=
  ∀ y1, y1 = x4 + (1 : Int32) → (K16 (x1, x2, x5, y1, h))
def wb_NJ_remarkOtherNames_16 (Z : Nat → Nat) (post : HS → Prop) (v0 : Nat) (K16 : Int32 × Int32 × Int32 × Int32 × HS → Prop) : Int32 × Int32 × Int32 × Int32 × HS → Prop := fun q => match q with
  | (x1, x2, x3, x4, h) =>
  gT h v0 = 16 ∧ (∃ a2, (gR h 12 v0) = some a2 ∧ gT h a2 = 1 ∧ vp_in (x1 + (1 : Int32)) (gN h a2) ∧ (((gA h a2 (x1 + (1 : Int32)).toNatClampNeg) ≤ x4 → (post h)) ∧ (¬ (gA h a2 (x1 + (1 : Int32)).toNatClampNeg) ≤ x4 → (gT h v0 = 16 ∧ (∃ a6, (gR h 13 v0) = some a6 ∧ gT h a6 = 1 ∧ vp_in x4 (gN h a6) ∧ (∀ y8, y8 = (gA h a6 x4.toNatClampNeg) → ((y8 = x2 → (wj_NJ_remarkOtherNames_62 Z post K16 v0 x1 x2 x4 y8 h)) ∧ (¬ y8 = x2 → ((y8 = x3 → (wj_NJ_remarkOtherNames_62 Z post K16 v0 x1 x2 x4 y8 h)) ∧ (¬ y8 = x3 → (gT h v0 = 16 ∧ (wp_NJ_remark Z (fun h12 => wj_NJ_remarkOtherNames_62 Z post K16 v0 x1 x2 x4 y8 h12) h v0 (((1000 : Int32) * x1) + y8)))))))))))))
def wp_NJ_remarkOtherNames (Z : Nat → Nat) (post : HS → Prop) (h : HS) (v0 : Nat) (x1 : Int32) : Prop :=
  gT h v0 = 16 ∧ (wp_NJ_bestName Z (fun r1 h2 => gT h2 v0 = 16 ∧ (∃ a5, (gR h2 12 v0) = some a5 ∧ gT h2 a5 = 1 ∧ vp_in x1 (gN h2 a5) ∧ (∀ y7, y7 = (gA h2 a5 x1.toNatClampNeg) → (lp (wb_NJ_remarkOtherNames_16 Z post v0) (x1, r1, (-1 : Int32), y7, h2))))) h v0 x1)
/-- NetJoins.hasSpotAt(Ljava/util/ArrayList;IJJ)Z -/
def wb_NJ_hasSpotAt_3 (Z : Nat → Nat) (post : Int32 → HS → Prop) (K3 : Option Nat × Int32 × Int64 × Int64 × Int32 × HS → Prop) : Option Nat × Int32 × Int64 × Int64 × Int32 × HS → Prop := fun q => match q with
  | (x0, x1, x2, x4, x6, h) =>
  ∃ a3, x0 = some a3 ∧ gT h a3 = 25 ∧ (wp_AL_size Z (fun r1 h2 => (r1 ≤ x6 → (post (0 : Int32) h2)) ∧ (¬ r1 ≤ x6 → (∃ a8, x0 = some a8 ∧ gT h2 a8 = 25 ∧ (wp_AL_get Z (fun r6 h7 => (∀ z, r6 = some z → gT h7 z = 22) ∧ (∃ a13, r6 = some a13 ∧ gT h7 a13 = 22 ∧ (wp_Spot_isAt Z (fun r11 h12 => (r11 = 0 → (∀ y16, y16 = x6 + (1 : Int32) → (K3 (x0, x1, x2, x4, y16, h12)))) ∧ (¬ r11 = 0 → (post (1 : Int32) h12))) h7 a13 x1 x2 x4))) h2 a8 x6)))) h a3)
def wp_NJ_hasSpotAt (Z : Nat → Nat) (post : Int32 → HS → Prop) (h : HS) (x0 : Option Nat) (x1 : Int32) (x2 : Int64) (x4 : Int64) : Prop :=
  lp (wb_NJ_hasSpotAt_3 Z post) (x0, x1, x2, x4, (0 : Int32), h)
/-- NetJoins.isLoose(LNetJoins$Spot;)Z -/
def wb_NJ_isLoose_26 (Z : Nat → Nat) (post : Int32 → HS → Prop) (v0 : Nat) (K26 : Option Nat × Int32 × HS → Prop) : Option Nat × Int32 × HS → Prop := fun q => match q with
  | (x1, x2, h) =>
  gT h v0 = 16 ∧ (∃ a4, (gR h 1 v0) = some a4 ∧ gT h a4 = 25 ∧ (wp_AL_size Z (fun r2 h3 => (r2 ≤ x2 → (post (1 : Int32) h3)) ∧ (¬ r2 ≤ x2 → (gT h3 v0 = 16 ∧ (∃ a10, (gR h3 1 v0) = some a10 ∧ gT h3 a10 = 25 ∧ (wp_AL_get Z (fun r8 h9 => (∀ z, r8 = some z → gT h9 z = 23) ∧ (∃ a15, r8 = some a15 ∧ gT h9 a15 = 23 ∧ (wp_Wire_goesThrough Z (fun r13 h14 => (r13 = 0 → (∀ y18, y18 = x2 + (1 : Int32) → (K26 (x1, y18, h14)))) ∧ (¬ r13 = 0 → (post (0 : Int32) h14))) h9 a15 x1))) h3 a10 x2))))) h a4))
def wp_NJ_isLoose (Z : Nat → Nat) (post : Int32 → HS → Prop) (h : HS) (v0 : Nat) (x1 : Option Nat) : Prop :=
  gT h v0 = 16 ∧ (∃ a2, x1 = some a2 ∧ gT h a2 = 22 ∧ (∃ a4, x1 = some a4 ∧ gT h a4 = 22 ∧ (∃ a6, x1 = some a6 ∧ gT h a6 = 22 ∧ (wp_NJ_hasSpotAt Z (fun r8 h9 => (r8 = 0 → (lp (wb_NJ_isLoose_26 Z post v0) (x1, (0 : Int32), h9))) ∧ (¬ r8 = 0 → (post (0 : Int32) h9))) h (gR h 5 v0) (gI h 600 a2) (gJ h 601 a4) (gJ h 602 a6)))))
/-- NetJoins.copiesOf(I)I -/
def wp_NJ_copiesOf (Z : Nat → Nat) (post : Int32 → HS → Prop) (h : HS) (v0 : Nat) (x1 : Int32) : Prop :=
  (x1 < 0 → (post (0 : Int32) h)) ∧ (¬ x1 < 0 → (gT h v0 = 16 ∧ (∃ a5, (gR h 0 v0) = some a5 ∧ gT h a5 = 25 ∧ (wp_AL_size Z (fun r3 h4 => (r3 ≤ x1 → (post (0 : Int32) h4)) ∧ (¬ r3 ≤ x1 → (gT h4 v0 = 16 ∧ (∃ a11, (gR h4 0 v0) = some a11 ∧ gT h4 a11 = 25 ∧ (wp_AL_get Z (fun r9 h10 => (∀ z, r9 = some z → gT h10 z = 21) ∧ (∃ a14, r9 = some a14 ∧ gT h10 a14 = 21 ∧ (post (gI h10 504 a14) h10))) h4 a11 x1))))) h a5))))
/-- NetJoins.pinNode(II)I -/
def wp_NJ_pinNode (Z : Nat → Nat) (post : Int32 → HS → Prop) (h : HS) (x0 : Int32) (x1 : Int32) : Prop :=
  post ((x0 * (16 : Int32)) + x1) h
/-- NetJoins.isJoinedToAnother(I)Z -/
def wb_NJ_isJoinedToAnother_21 (Z : Nat → Nat) (post : Int32 → HS → Prop) (v0 : Nat) (K21 : Int32 × Int32 × Int32 × HS → Prop) : Int32 × Int32 × Int32 × HS → Prop := fun q => match q with
  | (x1, x2, x3, h) =>
  (x2 ≤ x3 → (post (0 : Int32) h)) ∧ (¬ x2 ≤ x3 → (gT h v0 = 16 ∧ (∃ a3, (gR h 11 v0) = some a3 ∧ gT h a3 = 19 ∧ (gT h v0 = 16 ∧ (∃ a6, (gR h 11 v0) = some a6 ∧ gT h a6 = 19 ∧ (wp_NJ_pinNode Z (fun r8 h9 => ∃ a10, (gR h 302 a6) = some a10 ∧ gT h9 a10 = 1 ∧ vp_in r8 (gN h9 a10) ∧ (∃ a12, (gR h 303 a3) = some a12 ∧ gT h9 a12 = 1 ∧ vp_in (gA h9 a10 r8.toNatClampNeg) (gN h9 a12) ∧ (((gA h9 a12 (gA h9 a10 r8.toNatClampNeg).toNatClampNeg) ≤ (1 : Int32) → (∀ y15, y15 = x3 + (1 : Int32) → (K21 (x1, x2, y15, h9)))) ∧ (¬ (gA h9 a12 (gA h9 a10 r8.toNatClampNeg).toNatClampNeg) ≤ (1 : Int32) → (post (1 : Int32) h9))))) h x1 x3))))))
def wp_NJ_isJoinedToAnother (Z : Nat → Nat) (post : Int32 → HS → Prop) (h : HS) (v0 : Nat) (x1 : Int32) : Prop :=
  gT h v0 = 16 ∧ (∃ a4, (gR h 5 v0) = some a4 ∧ gT h a4 = 25 ∧ (wp_AL_get Z (fun r2 h3 => (∀ z, r2 = some z → gT h3 z = 22) ∧ (∃ a7, r2 = some a7 ∧ gT h3 a7 = 22 ∧ (gT h3 v0 = 16 ∧ (wp_NJ_copiesOf Z (fun r9 h10 => lp (wb_NJ_isJoinedToAnother_21 Z post v0) (x1, r9, (0 : Int32), h10)) h3 v0 (gI h3 600 a7))))) h a4 x1))
/-- NetJoins.listRemarks()V -/
def wj_NJ_listRemarks_134 (Z : Nat → Nat) (post : HS → Prop) (K89 : Int32 × HS → Prop) (v0 : Nat) (x1 : Int32) (h : HS) : Prop :=
  ∀ y1, y1 = x1 + (1 : Int32) → (K89 (y1, h))
def wb_NJ_listRemarks_89 (Z : Nat → Nat) (post : HS → Prop) (v0 : Nat) (K89 : Int32 × HS → Prop) : Int32 × HS → Prop := fun q => match q with
  | (x1, h) =>
  gT h v0 = 16 ∧ (∃ a4, (gR h 5 v0) = some a4 ∧ gT h a4 = 25 ∧ (wp_AL_size Z (fun r2 h3 => (r2 ≤ x1 → (gT h3 v0 = 16 ∧ (((1 : Int32) = 0 ∨ (1 : Int32) = 1) ∧ (∀ h9, h9 = sI h3 17 v0 (1 : Int32) → (post h9))))) ∧ (¬ r2 ≤ x1 → (gT h3 v0 = 16 ∧ (∃ a13, (gR h3 5 v0) = some a13 ∧ gT h3 a13 = 25 ∧ (wp_AL_get Z (fun r11 h12 => (∀ z, r11 = some z → gT h12 z = 22) ∧ (∃ a16, r11 = some a16 ∧ gT h12 a16 = 22 ∧ (((gI h12 605 a16) = 0 → (wj_NJ_listRemarks_134 Z post K89 v0 x1 h12)) ∧ (¬ (gI h12 605 a16) = 0 → (gT h12 v0 = 16 ∧ (wp_NJ_isJoinedToAnother Z (fun r19 h20 => (r19 = 0 → (wj_NJ_listRemarks_134 Z post K89 v0 x1 h20)) ∧ (¬ r19 = 0 → (gT h20 v0 = 16 ∧ (wp_NJ_remark Z (fun h24 => wj_NJ_listRemarks_134 Z post K89 v0 x1 h24) h20 v0 ((200000000 : Int32) + x1))))) h12 v0 x1)))))) h3 a13 x1))))) h a4))
def wj_NJ_listRemarks_81 (Z : Nat → Nat) (post : HS → Prop) (K43 : Int32 × HS → Prop) (v0 : Nat) (x1 : Int32) (h : HS) : Prop :=
  ∀ y1, y1 = x1 + (1 : Int32) → (K43 (y1, h))
def wb_NJ_listRemarks_43 (Z : Nat → Nat) (post : HS → Prop) (v0 : Nat) (K43 : Int32 × HS → Prop) : Int32 × HS → Prop := fun q => match q with
  | (x1, h) =>
  gT h v0 = 16 ∧ (∃ a4, (gR h 3 v0) = some a4 ∧ gT h a4 = 25 ∧ (wp_AL_size Z (fun r2 h3 => (r2 ≤ x1 → (lp (wb_NJ_listRemarks_89 Z post v0) ((0 : Int32), h3))) ∧ (¬ r2 ≤ x1 → (gT h3 v0 = 16 ∧ (∃ a10, (gR h3 3 v0) = some a10 ∧ gT h3 a10 = 25 ∧ (wp_AL_get Z (fun r8 h9 => (∀ z, r8 = some z → gT h9 z = 22) ∧ (gT h9 v0 = 16 ∧ (wp_NJ_isLoose Z (fun r13 h14 => (r13 = 0 → (wj_NJ_listRemarks_81 Z post K43 v0 x1 h14)) ∧ (¬ r13 = 0 → (gT h14 v0 = 16 ∧ (wp_NJ_remark Z (fun h18 => wj_NJ_listRemarks_81 Z post K43 v0 x1 h18) h14 v0 ((100000000 : Int32) + x1))))) h9 v0 r8))) h3 a10 x1))))) h a4))
def wb_NJ_listRemarks_19 (Z : Nat → Nat) (post : HS → Prop) (v0 : Nat) (K19 : Int32 × HS → Prop) : Int32 × HS → Prop := fun q => match q with
  | (x1, h) =>
  gT h v0 = 16 ∧ (∃ a2, (gR h 11 v0) = some a2 ∧ gT h a2 = 19 ∧ (((gI h 305 a2) ≤ x1 → (lp (wb_NJ_listRemarks_43 Z post v0) ((0 : Int32), h))) ∧ (¬ (gI h 305 a2) ≤ x1 → (gT h v0 = 16 ∧ (wp_NJ_remarkOtherNames Z (fun h6 => ∀ y8, y8 = x1 + (1 : Int32) → (K19 (y8, h6))) h v0 x1)))))
def wp_NJ_listRemarks (Z : Nat → Nat) (post : HS → Prop) (h : HS) (v0 : Nat)  : Prop :=
  gT h v0 = 16 ∧ (((gI h 17 v0) = 0 → (gT h v0 = 16 ∧ (wp_NJ_listNames Z (fun h4 => gT h4 v0 = 16 ∧ (∀ h7, h7 = sI h4 16 v0 (0 : Int32) → (lp (wb_NJ_listRemarks_19 Z post v0) ((0 : Int32), h7)))) h v0))) ∧ (¬ (gI h 17 v0) = 0 → (post h)))
/-- NetJoins.told(I)I -/
def wp_NJ_told (Z : Nat → Nat) (post : Int32 → HS → Prop) (h : HS) (v0 : Nat) (x1 : Int32) : Prop :=
  gT h v0 = 16 ∧ (wp_NJ_listRemarks Z (fun h2 => (x1 < 0 → (post (-1 : Int32) h2)) ∧ (¬ x1 < 0 → (gT h2 v0 = 16 ∧ (((gI h2 16 v0) ≤ x1 → (post (-1 : Int32) h2)) ∧ (¬ (gI h2 16 v0) ≤ x1 → (gT h2 v0 = 16 ∧ (∃ a8, (gR h2 15 v0) = some a8 ∧ gT h2 a8 = 1 ∧ vp_in x1 (gN h2 a8) ∧ (post (gA h2 a8 x1.toNatClampNeg) h2)))))))) h v0)
/-- NetJoins.thingOf(LNetJoins$Wire;)I -/
def wp_NJ_thingOf (Z : Nat → Nat) (post : Int32 → HS → Prop) (h : HS) (x0 : Option Nat) : Prop :=
  ∃ a1, x0 = some a1 ∧ gT h a1 = 23 ∧ (post ((120 : Int32) + (gI h 701 a1)) h)
/-- NetJoins.joinEnds(LNetJoins$Wire;)V -/
def wj_NJ_joinEnds_56 (Z : Nat → Nat) (post : HS → Prop) (K2 : Option Nat × Int32 × HS → Prop) (v0 : Nat) (x1 : Option Nat) (x2 : Int32) (h : HS) : Prop :=
  ∀ y1, y1 = x2 + (1 : Int32) → (K2 (x1, y1, h))
def wb_NJ_joinEnds_2 (Z : Nat → Nat) (post : HS → Prop) (v0 : Nat) (K2 : Option Nat × Int32 × HS → Prop) : Option Nat × Int32 × HS → Prop := fun q => match q with
  | (x1, x2, h) =>
  ∃ a1, x1 = some a1 ∧ gT h a1 = 23 ∧ (((gI h 701 a1) ≤ x2 → (post h)) ∧ (¬ (gI h 701 a1) ≤ x2 → (gT h v0 = 16 ∧ (∃ a7, (gR h 1 v0) = some a7 ∧ gT h a7 = 25 ∧ (wp_AL_get Z (fun r5 h6 => (∀ z, r5 = some z → gT h6 z = 23) ∧ (∃ a10, x1 = some a10 ∧ gT h6 a10 = 23 ∧ (∃ a14, r5 = some a14 ∧ gT h6 a14 = 23 ∧ (wp_Wire_isOn Z (fun r12 h13 => (r12 = 0 → (wj_NJ_joinEnds_56 Z post K2 v0 x1 x2 h13)) ∧ (¬ r12 = 0 → (∃ a19, x1 = some a19 ∧ gT h13 a19 = 23 ∧ (wp_Wire_hasCommonEnd Z (fun r17 h18 => (r17 = 0 → (wj_NJ_joinEnds_56 Z post K2 v0 x1 x2 h18)) ∧ (¬ r17 = 0 → (gT h18 v0 = 16 ∧ (wp_NJ_thingOf Z (fun r23 h24 => wp_NJ_thingOf Z (fun r25 h26 => ∃ a29, (gR h18 9 v0) = some a29 ∧ gT h26 a29 = 18 ∧ (wp_Joins_join Z (fun h28 => wj_NJ_joinEnds_56 Z post K2 v0 x1 x2 h28) h26 a29 r23 r25)) h24 r5) h18 x1)))) h13 a19 r5)))) h6 a14 (gI h6 700 a10))))) h a7 x2)))))
def wp_NJ_joinEnds (Z : Nat → Nat) (post : HS → Prop) (h : HS) (v0 : Nat) (x1 : Option Nat) : Prop :=
  lp (wb_NJ_joinEnds_2 Z post v0) (x1, (0 : Int32), h)
/-- NetJoins.joinJunction(LNetJoins$Spot;)V -/
def wj_NJ_joinJunction_61 (Z : Nat → Nat) (post : HS → Prop) (K4 : Option Nat × Int32 × Int32 × HS → Prop) (v0 : Nat) (x1 : Option Nat) (x2 : Int32) (x3 : Int32) (h : HS) : Prop :=
  ∀ y1, y1 = x3 + (1 : Int32) → (K4 (x1, x2, y1, h))
def wj_NJ_joinJunction_48 (Z : Nat → Nat) (post : HS → Prop) (K4 : Option Nat × Int32 × Int32 × HS → Prop) (v0 : Nat) (x1 : Option Nat) (x2 : Int32) (x3 : Int32) (x4 : Option Nat) (h : HS) : Prop :=
  gT h v0 = 16 ∧ (wp_NJ_thingOf Z (fun r2 h3 => ∃ a6, (gR h 9 v0) = some a6 ∧ gT h3 a6 = 18 ∧ (wp_Joins_join Z (fun h5 => wj_NJ_joinJunction_61 Z post K4 v0 x1 x2 x3 h5) h3 a6 x2 r2)) h x4)
def wb_NJ_joinJunction_4 (Z : Nat → Nat) (post : HS → Prop) (v0 : Nat) (K4 : Option Nat × Int32 × Int32 × HS → Prop) : Option Nat × Int32 × Int32 × HS → Prop := fun q => match q with
  | (x1, x2, x3, h) =>
  gT h v0 = 16 ∧ (∃ a4, (gR h 1 v0) = some a4 ∧ gT h a4 = 25 ∧ (wp_AL_size Z (fun r2 h3 => (r2 ≤ x3 → (post h3)) ∧ (¬ r2 ≤ x3 → (gT h3 v0 = 16 ∧ (∃ a10, (gR h3 1 v0) = some a10 ∧ gT h3 a10 = 25 ∧ (wp_AL_get Z (fun r8 h9 => (∀ z, r8 = some z → gT h9 z = 23) ∧ (∃ a15, r8 = some a15 ∧ gT h9 a15 = 23 ∧ (wp_Wire_goesThrough Z (fun r13 h14 => (r13 = 0 → (wj_NJ_joinJunction_61 Z post K4 v0 x1 x2 x3 h14)) ∧ (¬ r13 = 0 → ((¬ x2 = (-1 : Int32) → (wj_NJ_joinJunction_48 Z post K4 v0 x1 x2 x3 r8 h14)) ∧ (x2 = (-1 : Int32) → (wp_NJ_thingOf Z (fun r19 h20 => wj_NJ_joinJunction_48 Z post K4 v0 x1 r19 x3 r8 h20) h14 r8))))) h9 a15 x1))) h3 a10 x3))))) h a4))
def wp_NJ_joinJunction (Z : Nat → Nat) (post : HS → Prop) (h : HS) (v0 : Nat) (x1 : Option Nat) : Prop :=
  lp (wb_NJ_joinJunction_4 Z post v0) (x1, (-1 : Int32), (0 : Int32), h)
/-- NetJoins.joinSamePlace(LNetJoins$Spot;Ljava/util/ArrayList;)V -/
def wj_NJ_joinSamePlace_56 (Z : Nat → Nat) (post : HS → Prop) (K2 : Option Nat × Option Nat × Int32 × HS → Prop) (v0 : Nat) (x1 : Option Nat) (x2 : Option Nat) (x3 : Int32) (h : HS) : Prop :=
  ∀ y1, y1 = x3 + (1 : Int32) → (K2 (x1, x2, y1, h))
def wb_NJ_joinSamePlace_2 (Z : Nat → Nat) (post : HS → Prop) (v0 : Nat) (K2 : Option Nat × Option Nat × Int32 × HS → Prop) : Option Nat × Option Nat × Int32 × HS → Prop := fun q => match q with
  | (x1, x2, x3, h) =>
  ∃ a3, x2 = some a3 ∧ gT h a3 = 25 ∧ (wp_AL_size Z (fun r1 h2 => (r1 ≤ x3 → (post h2)) ∧ (¬ r1 ≤ x3 → (∃ a8, x2 = some a8 ∧ gT h2 a8 = 25 ∧ (wp_AL_get Z (fun r6 h7 => (∀ z, r6 = some z → gT h7 z = 22) ∧ (∃ a11, x1 = some a11 ∧ gT h7 a11 = 22 ∧ (∃ a13, x1 = some a13 ∧ gT h7 a13 = 22 ∧ (∃ a15, x1 = some a15 ∧ gT h7 a15 = 22 ∧ (∃ a19, r6 = some a19 ∧ gT h7 a19 = 22 ∧ (wp_Spot_isAt Z (fun r17 h18 => (r17 = 0 → (wj_NJ_joinSamePlace_56 Z post K2 v0 x1 x2 x3 h18)) ∧ (¬ r17 = 0 → (gT h18 v0 = 16 ∧ (∃ a23, x1 = some a23 ∧ gT h18 a23 = 22 ∧ (∃ a25, r6 = some a25 ∧ gT h18 a25 = 22 ∧ (∃ a29, (gR h18 9 v0) = some a29 ∧ gT h18 a29 = 18 ∧ (wp_Joins_join Z (fun h28 => wj_NJ_joinSamePlace_56 Z post K2 v0 x1 x2 x3 h28) h18 a29 (gI h18 604 a23) (gI h18 604 a25)))))))) h7 a19 (gI h7 600 a11) (gJ h7 601 a13) (gJ h7 602 a15))))))) h2 a8 x3)))) h a3)
def wp_NJ_joinSamePlace (Z : Nat → Nat) (post : HS → Prop) (h : HS) (v0 : Nat) (x1 : Option Nat) (x2 : Option Nat) : Prop :=
  lp (wb_NJ_joinSamePlace_2 Z post v0) (x1, x2, (0 : Int32), h)
/-- NetJoins.joinSpot(LNetJoins$Spot;)V -/
def wj_NJ_joinSpot_56 (Z : Nat → Nat) (post : HS → Prop) (K2 : Option Nat × Int32 × HS → Prop) (v0 : Nat) (x1 : Option Nat) (x2 : Int32) (h : HS) : Prop :=
  ∀ y1, y1 = x2 + (1 : Int32) → (K2 (x1, y1, h))
def wb_NJ_joinSpot_2 (Z : Nat → Nat) (post : HS → Prop) (v0 : Nat) (K2 : Option Nat × Int32 × HS → Prop) : Option Nat × Int32 × HS → Prop := fun q => match q with
  | (x1, x2, h) =>
  gT h v0 = 16 ∧ (∃ a4, (gR h 1 v0) = some a4 ∧ gT h a4 = 25 ∧ (wp_AL_size Z (fun r2 h3 => (r2 ≤ x2 → (gT h3 v0 = 16 ∧ (gT h3 v0 = 16 ∧ (wp_NJ_joinSamePlace Z (fun h9 => gT h9 v0 = 16 ∧ (gT h9 v0 = 16 ∧ (wp_NJ_joinSamePlace Z (fun h13 => post h13) h9 v0 x1 (gR h9 5 v0)))) h3 v0 x1 (gR h3 3 v0))))) ∧ (¬ r2 ≤ x2 → (gT h3 v0 = 16 ∧ (∃ a18, (gR h3 1 v0) = some a18 ∧ gT h3 a18 = 25 ∧ (wp_AL_get Z (fun r16 h17 => (∀ z, r16 = some z → gT h17 z = 23) ∧ (∃ a23, r16 = some a23 ∧ gT h17 a23 = 23 ∧ (wp_Wire_goesThrough Z (fun r21 h22 => (r21 = 0 → (wj_NJ_joinSpot_56 Z post K2 v0 x1 x2 h22)) ∧ (¬ r21 = 0 → (gT h22 v0 = 16 ∧ (gT h22 v0 = 16 ∧ (∃ a30, (gR h22 1 v0) = some a30 ∧ gT h22 a30 = 25 ∧ (wp_AL_get Z (fun r28 h29 => (∀ z, r28 = some z → gT h29 z = 23) ∧ (wp_NJ_thingOf Z (fun r33 h34 => ∃ a35, x1 = some a35 ∧ gT h34 a35 = 22 ∧ (∃ a39, (gR h22 9 v0) = some a39 ∧ gT h34 a39 = 18 ∧ (wp_Joins_join Z (fun h38 => wj_NJ_joinSpot_56 Z post K2 v0 x1 x2 h38) h34 a39 r33 (gI h34 604 a35)))) h29 r28)) h22 a30 x2)))))) h17 a23 x1))) h3 a18 x2))))) h a4))
def wp_NJ_joinSpot (Z : Nat → Nat) (post : HS → Prop) (h : HS) (v0 : Nat) (x1 : Option Nat) : Prop :=
  lp (wb_NJ_joinSpot_2 Z post v0) (x1, (0 : Int32), h)
