/-- NetJoins.touchAnew()V -/
def wb_NJ_touchAnew_128 (Z : Nat → Nat) (post : HS → Prop) (v0 : Nat) (K128 : Int32 × HS → Prop) : Int32 × HS → Prop := fun q => match q with
  | (x1, h) =>
  gT h v0 = 16 ∧ (∃ a4, (gR h 5 v0) = some a4 ∧ gT h a4 = 25 ∧ (wp_AL_size Z (fun r2 h3 => (r2 ≤ x1 → (post h3)) ∧ (¬ r2 ≤ x1 → (gT h3 v0 = 16 ∧ (∃ a10, (gR h3 5 v0) = some a10 ∧ gT h3 a10 = 25 ∧ (wp_AL_get Z (fun r8 h9 => (∀ z, r8 = some z → gT h9 z = 22) ∧ (gT h9 v0 = 16 ∧ (wp_NJ_joinSpot Z (fun h14 => ∀ y16, y16 = x1 + (1 : Int32) → (K128 (y16, h14))) h9 v0 r8))) h3 a10 x1))))) h a4))
def wb_NJ_touchAnew_94 (Z : Nat → Nat) (post : HS → Prop) (v0 : Nat) (K94 : Int32 × HS → Prop) : Int32 × HS → Prop := fun q => match q with
  | (x1, h) =>
  gT h v0 = 16 ∧ (∃ a4, (gR h 3 v0) = some a4 ∧ gT h a4 = 25 ∧ (wp_AL_size Z (fun r2 h3 => (r2 ≤ x1 → (lp (wb_NJ_touchAnew_128 Z post v0) ((0 : Int32), h3))) ∧ (¬ r2 ≤ x1 → (gT h3 v0 = 16 ∧ (∃ a10, (gR h3 3 v0) = some a10 ∧ gT h3 a10 = 25 ∧ (wp_AL_get Z (fun r8 h9 => (∀ z, r8 = some z → gT h9 z = 22) ∧ (gT h9 v0 = 16 ∧ (wp_NJ_joinSpot Z (fun h14 => ∀ y16, y16 = x1 + (1 : Int32) → (K94 (y16, h14))) h9 v0 r8))) h3 a10 x1))))) h a4))
def wb_NJ_touchAnew_60 (Z : Nat → Nat) (post : HS → Prop) (v0 : Nat) (K60 : Int32 × HS → Prop) : Int32 × HS → Prop := fun q => match q with
  | (x1, h) =>
  gT h v0 = 16 ∧ (∃ a4, (gR h 2 v0) = some a4 ∧ gT h a4 = 25 ∧ (wp_AL_size Z (fun r2 h3 => (r2 ≤ x1 → (lp (wb_NJ_touchAnew_94 Z post v0) ((0 : Int32), h3))) ∧ (¬ r2 ≤ x1 → (gT h3 v0 = 16 ∧ (∃ a10, (gR h3 2 v0) = some a10 ∧ gT h3 a10 = 25 ∧ (wp_AL_get Z (fun r8 h9 => (∀ z, r8 = some z → gT h9 z = 22) ∧ (gT h9 v0 = 16 ∧ (wp_NJ_joinJunction Z (fun h14 => ∀ y16, y16 = x1 + (1 : Int32) → (K60 (y16, h14))) h9 v0 r8))) h3 a10 x1))))) h a4))
def wj_NJ_touchAnew_52 (Z : Nat → Nat) (post : HS → Prop) (K9 : Int32 × HS → Prop) (v0 : Nat) (x1 : Int32) (h : HS) : Prop :=
  ∀ y1, y1 = x1 + (1 : Int32) → (K9 (y1, h))
def wb_NJ_touchAnew_9 (Z : Nat → Nat) (post : HS → Prop) (v0 : Nat) (K9 : Int32 × HS → Prop) : Int32 × HS → Prop := fun q => match q with
  | (x1, h) =>
  gT h v0 = 16 ∧ (∃ a4, (gR h 1 v0) = some a4 ∧ gT h a4 = 25 ∧ (wp_AL_size Z (fun r2 h3 => (r2 ≤ x1 → (lp (wb_NJ_touchAnew_60 Z post v0) ((0 : Int32), h3))) ∧ (¬ r2 ≤ x1 → (gT h3 v0 = 16 ∧ (∃ a10, (gR h3 1 v0) = some a10 ∧ gT h3 a10 = 25 ∧ (wp_AL_get Z (fun r8 h9 => (∀ z, r8 = some z → gT h9 z = 23) ∧ (∃ a13, r8 = some a13 ∧ gT h9 a13 = 23 ∧ ((¬ (gI h9 706 a13) = 0 → (wj_NJ_touchAnew_52 Z post K9 v0 x1 h9)) ∧ ((gI h9 706 a13) = 0 → (gT h9 v0 = 16 ∧ (∃ a19, (gR h9 1 v0) = some a19 ∧ gT h9 a19 = 25 ∧ (wp_AL_get Z (fun r17 h18 => (∀ z, r17 = some z → gT h18 z = 23) ∧ (gT h18 v0 = 16 ∧ (wp_NJ_joinEnds Z (fun h23 => wj_NJ_touchAnew_52 Z post K9 v0 x1 h23) h18 v0 r17))) h9 a19 x1))))))) h3 a10 x1))))) h a4))
def wp_NJ_touchAnew (Z : Nat → Nat) (post : HS → Prop) (h : HS) (v0 : Nat)  : Prop :=
  gT h v0 = 16 ∧ (∃ a4, (gR h 9 v0) = some a4 ∧ gT h a4 = 18 ∧ (wp_Joins_scatter Z (fun h3 => lp (wb_NJ_touchAnew_9 Z post v0) ((0 : Int32), h3)) h a4))
/-- NetJoins.nodeOn(LNetJoins$Sheet;I)I -/
def wp_NJ_nodeOn (Z : Nat → Nat) (post : Int32 → HS → Prop) (h : HS) (v0 : Nat) (x1 : Option Nat) (x2 : Int32) : Prop :=
  ((60 : Int32) ≤ x2 → (∀ y2, y2 = (x2 - (60 : Int32)) → (gT h v0 = 16 ∧ (∃ a6, (gR h 3 v0) = some a6 ∧ gT h a6 = 25 ∧ (wp_AL_size Z (fun r4 h5 => (r4 ≤ y2 → (post (-1 : Int32) h5)) ∧ (¬ r4 ≤ y2 → (∃ a9, x1 = some a9 ∧ gT h5 a9 = 21 ∧ (gT h5 v0 = 16 ∧ (∃ a14, (gR h5 3 v0) = some a14 ∧ gT h5 a14 = 25 ∧ (wp_AL_get Z (fun r12 h13 => (∀ z, r12 = some z → gT h13 z = 22) ∧ (∃ a17, r12 = some a17 ∧ gT h13 a17 = 22 ∧ (wp_NJ_nameNode Z (fun r19 h20 => post r19 h20) h13 (gI h5 500 a9) (gI h13 603 a17)))) h5 a14 y2)))))) h a6))))) ∧ (¬ (60 : Int32) ≤ x2 → (∃ a21, x1 = some a21 ∧ gT h a21 = 21 ∧ (wp_NJ_pinNode Z (fun r23 h24 => post r23 h24) h x2 (gI h 503 a21))))
/-- NetJoins.spreadSpots(LNetJoins$Sheet;Ljava/util/ArrayList;)V -/
def wj_NJ_spreadSpots_66 (Z : Nat → Nat) (post : HS → Prop) (K2 : Option Nat × Option Nat × Int32 × HS → Prop) (v0 : Nat) (x1 : Option Nat) (x2 : Option Nat) (x3 : Int32) (h : HS) : Prop :=
  ∀ y1, y1 = x3 + (1 : Int32) → (K2 (x1, x2, y1, h))
def wb_NJ_spreadSpots_2 (Z : Nat → Nat) (post : HS → Prop) (v0 : Nat) (K2 : Option Nat × Option Nat × Int32 × HS → Prop) : Option Nat × Option Nat × Int32 × HS → Prop := fun q => match q with
  | (x1, x2, x3, h) =>
  ∃ a3, x2 = some a3 ∧ gT h a3 = 25 ∧ (wp_AL_size Z (fun r1 h2 => (r1 ≤ x3 → (post h2)) ∧ (¬ r1 ≤ x3 → (∃ a8, x2 = some a8 ∧ gT h2 a8 = 25 ∧ (wp_AL_get Z (fun r6 h7 => (∀ z, r6 = some z → gT h7 z = 22) ∧ (∃ a11, r6 = some a11 ∧ gT h7 a11 = 22 ∧ (∃ a13, x1 = some a13 ∧ gT h7 a13 = 21 ∧ ((¬ (gI h7 600 a11) = (gI h7 502 a13) → (wj_NJ_spreadSpots_66 Z post K2 v0 x1 x2 x3 h7)) ∧ ((gI h7 600 a11) = (gI h7 502 a13) → (gT h7 v0 = 16 ∧ (∃ a17, r6 = some a17 ∧ gT h7 a17 = 22 ∧ (gT h7 v0 = 16 ∧ (wp_NJ_nodeOn Z (fun r19 h20 => gT h20 v0 = 16 ∧ (∃ a23, r6 = some a23 ∧ gT h20 a23 = 22 ∧ (∃ a27, (gR h20 9 v0) = some a27 ∧ gT h20 a27 = 18 ∧ (wp_Joins_root Z (fun r25 h26 => gT h26 v0 = 16 ∧ (wp_NJ_nodeOn Z (fun r29 h30 => ∃ a34, (gR h7 10 v0) = some a34 ∧ gT h30 a34 = 18 ∧ (wp_Joins_join Z (fun h33 => wj_NJ_spreadSpots_66 Z post K2 v0 x1 x2 x3 h33) h30 a34 r19 r29)) h26 v0 x1 r25)) h20 a27 (gI h20 604 a23))))) h7 v0 x1 (gI h7 604 a17)))))))))) h2 a8 x3)))) h a3)
def wp_NJ_spreadSpots (Z : Nat → Nat) (post : HS → Prop) (h : HS) (v0 : Nat) (x1 : Option Nat) (x2 : Option Nat) : Prop :=
  lp (wb_NJ_spreadSpots_2 Z post v0) (x1, x2, (0 : Int32), h)
/-- NetJoins.spreadOn(LNetJoins$Sheet;)V -/
def wp_NJ_spreadOn (Z : Nat → Nat) (post : HS → Prop) (h : HS) (v0 : Nat) (x1 : Option Nat) : Prop :=
  gT h v0 = 16 ∧ (gT h v0 = 16 ∧ (wp_NJ_spreadSpots Z (fun h3 => gT h3 v0 = 16 ∧ (gT h3 v0 = 16 ∧ (wp_NJ_spreadSpots Z (fun h7 => post h7) h3 v0 x1 (gR h3 3 v0)))) h v0 x1 (gR h 5 v0)))
/-- NetJoins.joinMembers(LNetJoins$Bus;ILNetJoins$Bus;I)V -/
def wb_NJ_joinMembers_16 (Z : Nat → Nat) (post : HS → Prop) (v0 : Nat) (K16 : Option Nat × Int32 × Option Nat × Int32 × Int32 × Int32 × HS → Prop) : Option Nat × Int32 × Option Nat × Int32 × Int32 × Int32 × HS → Prop := fun q => match q with
  | (x1, x2, x3, x4, x5, x6, h) =>
  (x5 ≤ x6 → (post h)) ∧ (¬ x5 ≤ x6 → (gT h v0 = 16 ∧ (∃ a5, x1 = some a5 ∧ gT h a5 = 17 ∧ (wp_Bus_member Z (fun r3 h4 => wp_NJ_nameNode Z (fun r7 h8 => ∃ a11, x3 = some a11 ∧ gT h8 a11 = 17 ∧ (wp_Bus_member Z (fun r9 h10 => wp_NJ_nameNode Z (fun r13 h14 => ∃ a17, (gR h 10 v0) = some a17 ∧ gT h14 a17 = 18 ∧ (wp_Joins_join Z (fun h16 => ∀ y19, y19 = x6 + (1 : Int32) → (K16 (x1, x2, x3, x4, x5, y19, h16))) h14 a17 r7 r13)) h10 x4 r9) h8 a11 x6)) h4 x2 r3) h a5 x6))))
def wp_NJ_joinMembers (Z : Nat → Nat) (post : HS → Prop) (h : HS) (v0 : Nat) (x1 : Option Nat) (x2 : Int32) (x3 : Option Nat) (x4 : Int32) : Prop :=
  ∃ a3, x1 = some a3 ∧ gT h a3 = 17 ∧ (wp_Bus_length Z (fun r1 h2 => ∃ a7, x3 = some a7 ∧ gT h2 a7 = 17 ∧ (wp_Bus_length Z (fun r5 h6 => ∀ y9, y9 = (if r5 < r1 then r5 else r1) → (lp (wb_NJ_joinMembers_16 Z post v0) (x1, x2, x3, x4, y9, (0 : Int32), h6))) h2 a7)) h a3)
/-- NetJoins.longestBefore(I)LNetJoins$Bus; -/
def wj_NJ_longestBefore_102 (Z : Nat → Nat) (post : Option Nat → HS → Prop) (K17 : Int32 × Option Nat × Option Nat × Int32 × HS → Prop) (v0 : Nat) (x1 : Int32) (x2 : Option Nat) (x3 : Option Nat) (x4 : Int32) (h : HS) : Prop :=
  ∀ y1, y1 = x4 + (1 : Int32) → (K17 (x1, x2, x3, y1, h))
def wj_NJ_longestBefore_99 (Z : Nat → Nat) (post : Option Nat → HS → Prop) (K17 : Int32 × Option Nat × Option Nat × Int32 × HS → Prop) (v0 : Nat) (x1 : Int32) (x2 : Option Nat) (x4 : Int32) (x5 : Option Nat) (h : HS) : Prop :=
  wj_NJ_longestBefore_102 Z post K17 v0 x1 x2 x5 x4 h
def wj_NJ_longestBefore_76 (Z : Nat → Nat) (post : Option Nat → HS → Prop) (K17 : Int32 × Option Nat × Option Nat × Int32 × HS → Prop) (v0 : Nat) (x1 : Int32) (x2 : Option Nat) (x3 : Option Nat) (x4 : Int32) (x5 : Option Nat) (s0 : Int32) (h : HS) : Prop :=
  (s0 = 0 → (wj_NJ_longestBefore_102 Z post K17 v0 x1 x2 x3 x4 h)) ∧ (¬ s0 = 0 → ((x3 = none → (wj_NJ_longestBefore_99 Z post K17 v0 x1 x2 x4 x5 h)) ∧ (¬ x3 = none → (∃ a5, x5 = some a5 ∧ gT h a5 = 17 ∧ (wp_Bus_length Z (fun r3 h4 => ∃ a9, x3 = some a9 ∧ gT h4 a9 = 17 ∧ (wp_Bus_length Z (fun r7 h8 => (r3 ≤ r7 → (wj_NJ_longestBefore_102 Z post K17 v0 x1 x2 x3 x4 h8)) ∧ (¬ r3 ≤ r7 → (wj_NJ_longestBefore_99 Z post K17 v0 x1 x2 x4 x5 h8))) h4 a9)) h a5)))))
def wj_NJ_longestBefore_75 (Z : Nat → Nat) (post : Option Nat → HS → Prop) (K17 : Int32 × Option Nat × Option Nat × Int32 × HS → Prop) (v0 : Nat) (x1 : Int32) (x2 : Option Nat) (x3 : Option Nat) (x4 : Int32) (x5 : Option Nat) (h : HS) : Prop :=
  wj_NJ_longestBefore_76 Z post K17 v0 x1 x2 x3 x4 x5 (0 : Int32) h
def wj_NJ_longestBefore_71 (Z : Nat → Nat) (post : Option Nat → HS → Prop) (K17 : Int32 × Option Nat × Option Nat × Int32 × HS → Prop) (v0 : Nat) (x1 : Int32) (x2 : Option Nat) (x3 : Option Nat) (x4 : Int32) (x5 : Option Nat) (h : HS) : Prop :=
  wj_NJ_longestBefore_76 Z post K17 v0 x1 x2 x3 x4 x5 (1 : Int32) h
def wb_NJ_longestBefore_17 (Z : Nat → Nat) (post : Option Nat → HS → Prop) (v0 : Nat) (K17 : Int32 × Option Nat × Option Nat × Int32 × HS → Prop) : Int32 × Option Nat × Option Nat × Int32 × HS → Prop := fun q => match q with
  | (x1, x2, x3, x4, h) =>
  (x1 ≤ x4 → (post x3 h)) ∧ (¬ x1 ≤ x4 → (gT h v0 = 16 ∧ (∃ a5, (gR h 7 v0) = some a5 ∧ gT h a5 = 25 ∧ (wp_AL_get Z (fun r3 h4 => (∀ z, r3 = some z → gT h4 z = 17) ∧ (∃ a8, r3 = some a8 ∧ gT h4 a8 = 17 ∧ (∃ a10, x2 = some a10 ∧ gT h4 a10 = 17 ∧ ((¬ (gI h4 101 a8) = (gI h4 101 a10) → (wj_NJ_longestBefore_75 Z post K17 v0 x1 x2 x3 x4 r3 h4)) ∧ ((gI h4 101 a8) = (gI h4 101 a10) → (∃ a13, x2 = some a13 ∧ gT h4 a13 = 17 ∧ (wp_NJ_isPower Z (fun r15 h16 => (¬ r15 = 0 → (wj_NJ_longestBefore_71 Z post K17 v0 x1 x2 x3 x4 r3 h16)) ∧ (r15 = 0 → (∃ a18, r3 = some a18 ∧ gT h16 a18 = 17 ∧ (∃ a20, x2 = some a20 ∧ gT h16 a20 = 17 ∧ ((¬ (gI h16 100 a18) = (gI h16 100 a20) → (wj_NJ_longestBefore_75 Z post K17 v0 x1 x2 x3 x4 r3 h16)) ∧ ((gI h16 100 a18) = (gI h16 100 a20) → (wj_NJ_longestBefore_71 Z post K17 v0 x1 x2 x3 x4 r3 h16))))))) h4 (gI h4 101 a13)))))))) h a5 x4))))
def wp_NJ_longestBefore (Z : Nat → Nat) (post : Option Nat → HS → Prop) (h : HS) (v0 : Nat) (x1 : Int32) : Prop :=
  gT h v0 = 16 ∧ (∃ a4, (gR h 7 v0) = some a4 ∧ gT h a4 = 25 ∧ (wp_AL_get Z (fun r2 h3 => (∀ z, r2 = some z → gT h3 z = 17) ∧ (lp (wb_NJ_longestBefore_17 Z post v0) (x1, r2, none, (0 : Int32), h3))) h a4 x1))
/-- NetJoins.joinBus(II)V -/
def wj_NJ_joinBus_77 (Z : Nat → Nat) (post : HS → Prop) (v0 : Nat) (s0 : Int32) (s1 : Option Nat) (s2 : Int32) (s3 : Option Nat) (s4 : Option Nat) (h : HS) : Prop :=
  ∃ a3, s4 = some a3 ∧ gT h a3 = 16 ∧ (wp_NJ_joinMembers Z (fun h2 => post h2) h a3 s3 s2 s1 s0)
def wj_NJ_joinBus_46 (Z : Nat → Nat) (post : HS → Prop) (v0 : Nat) (x1 : Int32) (x2 : Int32) (x3 : Option Nat) (x4 : Int32) (h : HS) : Prop :=
  gT h v0 = 16 ∧ (wp_NJ_longestBefore Z (fun r1 h2 => (r1 = none → (post h2)) ∧ (¬ r1 = none → ((x4 = 0 → (wj_NJ_joinBus_77 Z post v0 x2 r1 x2 x3 (some v0) h2)) ∧ (¬ x4 = 0 → (∃ a6, r1 = some a6 ∧ gT h2 a6 = 17 ∧ (wj_NJ_joinBus_77 Z post v0 (gI h2 100 a6) r1 x2 x3 (some v0) h2)))))) h v0 x1)
def wp_NJ_joinBus (Z : Nat → Nat) (post : HS → Prop) (h : HS) (v0 : Nat) (x1 : Int32) (x2 : Int32) : Prop :=
  gT h v0 = 16 ∧ (∃ a4, (gR h 7 v0) = some a4 ∧ gT h a4 = 25 ∧ (wp_AL_get Z (fun r2 h3 => (∀ z, r2 = some z → gT h3 z = 17) ∧ (∃ a7, r2 = some a7 ∧ gT h3 a7 = 17 ∧ (wp_NJ_isPower Z (fun r9 h10 => (r9 = 0 → (wj_NJ_joinBus_46 Z post v0 x1 x2 r2 r9 h10)) ∧ (¬ r9 = 0 → (∃ a12, r2 = some a12 ∧ gT h10 a12 = 17 ∧ ((x2 = (gI h10 100 a12) → (wj_NJ_joinBus_46 Z post v0 x1 x2 r2 r9 h10)) ∧ (¬ x2 = (gI h10 100 a12) → (∃ a15, r2 = some a15 ∧ gT h10 a15 = 17 ∧ (gT h10 v0 = 16 ∧ (wp_NJ_joinMembers Z (fun h18 => post h18) h10 v0 r2 x2 r2 (gI h10 100 a15))))))))) h3 (gI h3 101 a7)))) h a4 x1))
/-- NetJoins.joinBusesOn(LNetJoins$Sheet;)V -/
def wj_NJ_joinBusesOn_43 (Z : Nat → Nat) (post : HS → Prop) (K2 : Option Nat × Int32 × HS → Prop) (v0 : Nat) (x1 : Option Nat) (x2 : Int32) (h : HS) : Prop :=
  ∀ y1, y1 = x2 + (1 : Int32) → (K2 (x1, y1, h))
def wb_NJ_joinBusesOn_2 (Z : Nat → Nat) (post : HS → Prop) (v0 : Nat) (K2 : Option Nat × Int32 × HS → Prop) : Option Nat × Int32 × HS → Prop := fun q => match q with
  | (x1, x2, h) =>
  gT h v0 = 16 ∧ (∃ a4, (gR h 7 v0) = some a4 ∧ gT h a4 = 25 ∧ (wp_AL_size Z (fun r2 h3 => (r2 ≤ x2 → (post h3)) ∧ (¬ r2 ≤ x2 → (gT h3 v0 = 16 ∧ (∃ a10, (gR h3 7 v0) = some a10 ∧ gT h3 a10 = 25 ∧ (wp_AL_get Z (fun r8 h9 => (∀ z, r8 = some z → gT h9 z = 17) ∧ (∃ a13, r8 = some a13 ∧ gT h9 a13 = 17 ∧ (∃ a15, x1 = some a15 ∧ gT h9 a15 = 21 ∧ ((¬ (gI h9 100 a13) = (gI h9 502 a15) → (wj_NJ_joinBusesOn_43 Z post K2 v0 x1 x2 h9)) ∧ ((gI h9 100 a13) = (gI h9 502 a15) → (∃ a18, x1 = some a18 ∧ gT h9 a18 = 21 ∧ (gT h9 v0 = 16 ∧ (wp_NJ_joinBus Z (fun h21 => wj_NJ_joinBusesOn_43 Z post K2 v0 x1 x2 h21) h9 v0 x2 (gI h9 500 a18))))))))) h3 a10 x2))))) h a4))
def wp_NJ_joinBusesOn (Z : Nat → Nat) (post : HS → Prop) (h : HS) (v0 : Nat) (x1 : Option Nat) : Prop :=
  lp (wb_NJ_joinBusesOn_2 Z post v0) (x1, (0 : Int32), h)
/-- NetJoins.joinAnew()V -/
def wb_NJ_joinAnew_62 (Z : Nat → Nat) (post : HS → Prop) (v0 : Nat) (K62 : Int32 × HS → Prop) : Int32 × HS → Prop := fun q => match q with
  | (x1, h) =>
  gT h v0 = 16 ∧ (∃ a4, (gR h 6 v0) = some a4 ∧ gT h a4 = 25 ∧ (wp_AL_size Z (fun r2 h3 => (r2 ≤ x1 → (post h3)) ∧ (¬ r2 ≤ x1 → (gT h3 v0 = 16 ∧ (gT h3 v0 = 16 ∧ (∃ a11, (gR h3 6 v0) = some a11 ∧ gT h3 a11 = 25 ∧ (wp_AL_get Z (fun r9 h10 => (∀ z, r9 = some z → gT h10 z = 20) ∧ (∃ a14, r9 = some a14 ∧ gT h10 a14 = 20 ∧ (gT h10 v0 = 16 ∧ (∃ a19, (gR h10 6 v0) = some a19 ∧ gT h10 a19 = 25 ∧ (wp_AL_get Z (fun r17 h18 => (∀ z, r17 = some z → gT h18 z = 20) ∧ (∃ a22, r17 = some a22 ∧ gT h18 a22 = 20 ∧ (∃ a26, (gR h3 10 v0) = some a26 ∧ gT h18 a26 = 18 ∧ (wp_Joins_join Z (fun h25 => ∀ y28, y28 = x1 + (1 : Int32) → (K62 (y28, h25))) h18 a26 (gI h10 403 a14) (gI h18 404 a22))))) h10 a19 x1))))) h3 a11 x1)))))) h a4))
def wb_NJ_joinAnew_13 (Z : Nat → Nat) (post : HS → Prop) (v0 : Nat) (K13 : Int32 × HS → Prop) : Int32 × HS → Prop := fun q => match q with
  | (x1, h) =>
  gT h v0 = 16 ∧ (∃ a4, (gR h 0 v0) = some a4 ∧ gT h a4 = 25 ∧ (wp_AL_size Z (fun r2 h3 => (r2 ≤ x1 → (lp (wb_NJ_joinAnew_62 Z post v0) ((0 : Int32), h3))) ∧ (¬ r2 ≤ x1 → (gT h3 v0 = 16 ∧ (∃ a10, (gR h3 0 v0) = some a10 ∧ gT h3 a10 = 25 ∧ (wp_AL_get Z (fun r8 h9 => (∀ z, r8 = some z → gT h9 z = 21) ∧ (gT h9 v0 = 16 ∧ (wp_NJ_spreadOn Z (fun h14 => gT h14 v0 = 16 ∧ (∃ a19, (gR h14 0 v0) = some a19 ∧ gT h14 a19 = 25 ∧ (wp_AL_get Z (fun r17 h18 => (∀ z, r17 = some z → gT h18 z = 21) ∧ (gT h18 v0 = 16 ∧ (wp_NJ_joinBusesOn Z (fun h23 => ∀ y25, y25 = x1 + (1 : Int32) → (K13 (y25, h23))) h18 v0 r17))) h14 a19 x1))) h9 v0 r8))) h3 a10 x1))))) h a4))
def wp_NJ_joinAnew (Z : Nat → Nat) (post : HS → Prop) (h : HS) (v0 : Nat)  : Prop :=
  gT h v0 = 16 ∧ (wp_NJ_touchAnew Z (fun h2 => gT h2 v0 = 16 ∧ (∃ a7, (gR h2 10 v0) = some a7 ∧ gT h2 a7 = 18 ∧ (wp_Joins_scatter Z (fun h6 => lp (wb_NJ_joinAnew_13 Z post v0) ((0 : Int32), h6)) h2 a7))) h v0)
/-- NetJoins.countNets()V -/
def wb_NJ_countNets_41 (Z : Nat → Nat) (post : HS → Prop) (K9 : Int32 × HS → Prop) (v0 : Nat) (K41 : Int32 × Int32 × Int32 × HS → Prop) : Int32 × Int32 × Int32 × HS → Prop := fun q => match q with
  | (x1, x2, x3, h) =>
  (x2 ≤ x3 → (∀ y2, y2 = x1 + (1 : Int32) → (K9 (y2, h)))) ∧ (¬ x2 ≤ x3 → (wp_NJ_pinNode Z (fun r3 h4 => gT h4 v0 = 16 ∧ (gT h4 v0 = 16 ∧ (∃ a9, (gR h4 10 v0) = some a9 ∧ gT h4 a9 = 18 ∧ (wp_Joins_root Z (fun r7 h8 => ∃ a13, (gR h4 11 v0) = some a13 ∧ gT h8 a13 = 19 ∧ (wp_Tab_put Z (fun h12 => ∀ y15, y15 = x3 + (1 : Int32) → (K41 (x1, x2, y15, h12))) h8 a13 r3 r7)) h4 a9 r3)))) h x1 x3))
def wb_NJ_countNets_9 (Z : Nat → Nat) (post : HS → Prop) (v0 : Nat) (K9 : Int32 × HS → Prop) : Int32 × HS → Prop := fun q => match q with
  | (x1, h) =>
  gT h v0 = 16 ∧ (∃ a4, (gR h 5 v0) = some a4 ∧ gT h a4 = 25 ∧ (wp_AL_size Z (fun r2 h3 => (r2 ≤ x1 → (post h3)) ∧ (¬ r2 ≤ x1 → (gT h3 v0 = 16 ∧ (∃ a10, (gR h3 5 v0) = some a10 ∧ gT h3 a10 = 25 ∧ (wp_AL_get Z (fun r8 h9 => (∀ z, r8 = some z → gT h9 z = 22) ∧ (∃ a13, r8 = some a13 ∧ gT h9 a13 = 22 ∧ (gT h9 v0 = 16 ∧ (wp_NJ_copiesOf Z (fun r15 h16 => lp (wb_NJ_countNets_41 Z post K9 v0) (x1, r15, (0 : Int32), h16)) h9 v0 (gI h9 600 a13))))) h3 a10 x1))))) h a4))
def wp_NJ_countNets (Z : Nat → Nat) (post : HS → Prop) (h : HS) (v0 : Nat)  : Prop :=
  gT h v0 = 16 ∧ (∃ a4, (gR h 11 v0) = some a4 ∧ gT h a4 = 19 ∧ (wp_Tab_begin Z (fun h3 => lp (wb_NJ_countNets_9 Z post v0) ((0 : Int32), h3)) h a4))
/-- NetJoins.same()Z -/
def wp_NJ_same (Z : Nat → Nat) (post : Int32 → HS → Prop) (h : HS) (v0 : Nat)  : Prop :=
  gT h v0 = 16 ∧ (∃ a4, (gR h 11 v0) = some a4 ∧ gT h a4 = 19 ∧ (wp_Tab_remember Z (fun h3 => gT h3 v0 = 16 ∧ (wp_NJ_joinAnew Z (fun h7 => gT h7 v0 = 16 ∧ (wp_NJ_countNets Z (fun h10 => gT h10 v0 = 16 ∧ (∃ a15, (gR h10 11 v0) = some a15 ∧ gT h10 a15 = 19 ∧ (wp_Tab_isAsRemembered Z (fun r13 h14 => (r13 = 0 ∨ r13 = 1) ∧ post r13 h14) h10 a15))) h7 v0)) h3 v0)) h a4))
/-- NetJoins.changed(I)I -/
def wp_NJ_changed (Z : Nat → Nat) (post : Int32 → HS → Prop) (h : HS) (v0 : Nat) (x1 : Int32) : Prop :=
  gT h v0 = 16 ∧ (∃ a4, (gR h 11 v0) = some a4 ∧ gT h a4 = 19 ∧ (wp_Tab_changedNet Z (fun r2 h3 => post r2 h3) h a4 x1))
/-- NetJoins.repeatOf(III)LNetJoins$Sheet; -/
def wp_NJ_repeatOf (Z : Nat → Nat) (post : Option Nat → HS → Prop) (h : HS) (v0 : Nat) (x1 : Int32) (x2 : Int32) (x3 : Int32) : Prop :=
  gT h v0 = 16 ∧ (∃ a4, (gR h 0 v0) = some a4 ∧ gT h a4 = 25 ∧ (wp_AL_get Z (fun r2 h3 => (∀ z, r2 = some z → gT h3 z = 21) ∧ (∀ q7, gT h3 q7 = 0 → (∀ h8, h8 = nH h3 q7 21 0 → (∃ a9, r2 = some a9 ∧ gT h8 a9 = 21 ∧ (wp_Sheet_init Z (fun h12 => ∃ a13, r2 = some a13 ∧ gT h12 a13 = 21 ∧ (∃ a15, r2 = some a15 ∧ gT h12 a15 = 21 ∧ (∀ h17, h17 = sI h12 504 a15 ((gI h12 504 a13) + (1 : Int32)) → (post (some q7) h17)))) h8 q7 x2 x3 x1 (gI h8 504 a9)))))) h a4 x1))
/-- NetJoins.keepUp()V -/
def wp_NJ_keepUp (Z : Nat → Nat) (post : HS → Prop) (h : HS) (v0 : Nat)  : Prop :=
  gT h v0 = 16 ∧ (∃ a4, (gR h 11 v0) = some a4 ∧ gT h a4 = 19 ∧ (wp_Tab_remember Z (fun h3 => gT h3 v0 = 16 ∧ (wp_NJ_countNets Z (fun h7 => gT h7 v0 = 16 ∧ (∃ a12, (gR h7 11 v0) = some a12 ∧ gT h7 a12 = 19 ∧ (wp_Tab_markChanges Z (fun h11 => gT h11 v0 = 16 ∧ (((0 : Int32) = 0 ∨ (0 : Int32) = 1) ∧ (∀ h16, h16 = sI h11 14 v0 (0 : Int32) → (gT h16 v0 = 16 ∧ (((0 : Int32) = 0 ∨ (0 : Int32) = 1) ∧ (∀ h19, h19 = sI h16 17 v0 (0 : Int32) → (post h19))))))) h7 a12))) h3 v0)) h a4))
/-- NetJoins.joinThroughJunctions(LNetJoins$Wire;)V -/
def wj_NJ_joinThroughJunctions_46 (Z : Nat → Nat) (post : HS → Prop) (K2 : Option Nat × Int32 × HS → Prop) (v0 : Nat) (x1 : Option Nat) (x2 : Int32) (h : HS) : Prop :=
  ∀ y1, y1 = x2 + (1 : Int32) → (K2 (x1, y1, h))
def wb_NJ_joinThroughJunctions_2 (Z : Nat → Nat) (post : HS → Prop) (v0 : Nat) (K2 : Option Nat × Int32 × HS → Prop) : Option Nat × Int32 × HS → Prop := fun q => match q with
  | (x1, x2, h) =>
  gT h v0 = 16 ∧ (∃ a4, (gR h 2 v0) = some a4 ∧ gT h a4 = 25 ∧ (wp_AL_size Z (fun r2 h3 => (r2 ≤ x2 → (post h3)) ∧ (¬ r2 ≤ x2 → (gT h3 v0 = 16 ∧ (∃ a10, (gR h3 2 v0) = some a10 ∧ gT h3 a10 = 25 ∧ (wp_AL_get Z (fun r8 h9 => (∀ z, r8 = some z → gT h9 z = 22) ∧ (∃ a15, x1 = some a15 ∧ gT h9 a15 = 23 ∧ (wp_Wire_goesThrough Z (fun r13 h14 => (r13 = 0 → (wj_NJ_joinThroughJunctions_46 Z post K2 v0 x1 x2 h14)) ∧ (¬ r13 = 0 → (gT h14 v0 = 16 ∧ (∃ a21, (gR h14 2 v0) = some a21 ∧ gT h14 a21 = 25 ∧ (wp_AL_get Z (fun r19 h20 => (∀ z, r19 = some z → gT h20 z = 22) ∧ (gT h20 v0 = 16 ∧ (wp_NJ_joinJunction Z (fun h25 => wj_NJ_joinThroughJunctions_46 Z post K2 v0 x1 x2 h25) h20 v0 r19))) h14 a21 x2))))) h9 a15 r8))) h3 a10 x2))))) h a4))
def wp_NJ_joinThroughJunctions (Z : Nat → Nat) (post : HS → Prop) (h : HS) (v0 : Nat) (x1 : Option Nat) : Prop :=
  lp (wb_NJ_joinThroughJunctions_2 Z post v0) (x1, (0 : Int32), h)
/-- NetJoins.joinWithSpots(LNetJoins$Wire;Ljava/util/ArrayList;)V -/
def wj_NJ_joinWithSpots_47 (Z : Nat → Nat) (post : HS → Prop) (K2 : Option Nat × Option Nat × Int32 × HS → Prop) (v0 : Nat) (x1 : Option Nat) (x2 : Option Nat) (x3 : Int32) (h : HS) : Prop :=
  ∀ y1, y1 = x3 + (1 : Int32) → (K2 (x1, x2, y1, h))
def wb_NJ_joinWithSpots_2 (Z : Nat → Nat) (post : HS → Prop) (v0 : Nat) (K2 : Option Nat × Option Nat × Int32 × HS → Prop) : Option Nat × Option Nat × Int32 × HS → Prop := fun q => match q with
  | (x1, x2, x3, h) =>
  ∃ a3, x2 = some a3 ∧ gT h a3 = 25 ∧ (wp_AL_size Z (fun r1 h2 => (r1 ≤ x3 → (post h2)) ∧ (¬ r1 ≤ x3 → (∃ a8, x2 = some a8 ∧ gT h2 a8 = 25 ∧ (wp_AL_get Z (fun r6 h7 => (∀ z, r6 = some z → gT h7 z = 22) ∧ (∃ a13, x1 = some a13 ∧ gT h7 a13 = 23 ∧ (wp_Wire_goesThrough Z (fun r11 h12 => (r11 = 0 → (wj_NJ_joinWithSpots_47 Z post K2 v0 x1 x2 x3 h12)) ∧ (¬ r11 = 0 → (gT h12 v0 = 16 ∧ (wp_NJ_thingOf Z (fun r17 h18 => ∃ a21, x2 = some a21 ∧ gT h18 a21 = 25 ∧ (wp_AL_get Z (fun r19 h20 => (∀ z, r19 = some z → gT h20 z = 22) ∧ (∃ a24, r19 = some a24 ∧ gT h20 a24 = 22 ∧ (∃ a28, (gR h12 9 v0) = some a28 ∧ gT h20 a28 = 18 ∧ (wp_Joins_join Z (fun h27 => wj_NJ_joinWithSpots_47 Z post K2 v0 x1 x2 x3 h27) h20 a28 r17 (gI h20 604 a24))))) h18 a21 x3)) h12 x1)))) h7 a13 r6))) h2 a8 x3)))) h a3)
def wp_NJ_joinWithSpots (Z : Nat → Nat) (post : HS → Prop) (h : HS) (v0 : Nat) (x1 : Option Nat) (x2 : Option Nat) : Prop :=
  lp (wb_NJ_joinWithSpots_2 Z post v0) (x1, x2, (0 : Int32), h)
/-- NetJoins.spreadOver(I)V -/
def wj_NJ_spreadOver_46 (Z : Nat → Nat) (post : HS → Prop) (K2 : Int32 × Int32 × HS → Prop) (v0 : Nat) (x1 : Int32) (x2 : Int32) (h : HS) : Prop :=
  ∀ y1, y1 = x2 + (1 : Int32) → (K2 (x1, y1, h))
def wb_NJ_spreadOver_2 (Z : Nat → Nat) (post : HS → Prop) (v0 : Nat) (K2 : Int32 × Int32 × HS → Prop) : Int32 × Int32 × HS → Prop := fun q => match q with
  | (x1, x2, h) =>
  gT h v0 = 16 ∧ (∃ a4, (gR h 0 v0) = some a4 ∧ gT h a4 = 25 ∧ (wp_AL_size Z (fun r2 h3 => (r2 ≤ x2 → (post h3)) ∧ (¬ r2 ≤ x2 → (gT h3 v0 = 16 ∧ (∃ a10, (gR h3 0 v0) = some a10 ∧ gT h3 a10 = 25 ∧ (wp_AL_get Z (fun r8 h9 => (∀ z, r8 = some z → gT h9 z = 21) ∧ (∃ a13, r8 = some a13 ∧ gT h9 a13 = 21 ∧ ((¬ (gI h9 502 a13) = x1 → (wj_NJ_spreadOver_46 Z post K2 v0 x1 x2 h9)) ∧ ((gI h9 502 a13) = x1 → (gT h9 v0 = 16 ∧ (∃ a19, (gR h9 0 v0) = some a19 ∧ gT h9 a19 = 25 ∧ (wp_AL_get Z (fun r17 h18 => (∀ z, r17 = some z → gT h18 z = 21) ∧ (gT h18 v0 = 16 ∧ (wp_NJ_spreadOn Z (fun h23 => wj_NJ_spreadOver_46 Z post K2 v0 x1 x2 h23) h18 v0 r17))) h9 a19 x2))))))) h3 a10 x2))))) h a4))
def wp_NJ_spreadOver (Z : Nat → Nat) (post : HS → Prop) (h : HS) (v0 : Nat) (x1 : Int32) : Prop :=
  lp (wb_NJ_spreadOver_2 Z post v0) (x1, (0 : Int32), h)
/-- NetJoins.putByName(LNetJoins$Spot;)V -/
def wj_NJ_putByName_40 (Z : Nat → Nat) (post : HS → Prop) (v0 : Nat) (x1 : Option Nat) (x2 : Int32) (h : HS) : Prop :=
  gT h v0 = 16 ∧ (∃ a4, (gR h 4 v0) = some a4 ∧ gT h a4 = 25 ∧ (wp_AL_add3 Z (fun h3 => post h3) h a4 x2 x1))
def wb_NJ_putByName_2 (Z : Nat → Nat) (post : HS → Prop) (v0 : Nat) (K2 : Option Nat × Int32 × HS → Prop) : Option Nat × Int32 × HS → Prop := fun q => match q with
  | (x1, x2, h) =>
  gT h v0 = 16 ∧ (∃ a4, (gR h 4 v0) = some a4 ∧ gT h a4 = 25 ∧ (wp_AL_size Z (fun r2 h3 => (r2 ≤ x2 → (wj_NJ_putByName_40 Z post v0 x1 x2 h3)) ∧ (¬ r2 ≤ x2 → (gT h3 v0 = 16 ∧ (∃ a10, (gR h3 4 v0) = some a10 ∧ gT h3 a10 = 25 ∧ (wp_AL_get Z (fun r8 h9 => (∀ z, r8 = some z → gT h9 z = 22) ∧ (∃ a13, r8 = some a13 ∧ gT h9 a13 = 22 ∧ (∃ a15, x1 = some a15 ∧ gT h9 a15 = 22 ∧ (((gI h9 603 a15) < (gI h9 603 a13) → (wj_NJ_putByName_40 Z post v0 x1 x2 h9)) ∧ (¬ (gI h9 603 a15) < (gI h9 603 a13) → (∀ y18, y18 = x2 + (1 : Int32) → (K2 (x1, y18, h9)))))))) h3 a10 x2))))) h a4))
def wp_NJ_putByName (Z : Nat → Nat) (post : HS → Prop) (h : HS) (v0 : Nat) (x1 : Option Nat) : Prop :=
  lp (wb_NJ_putByName_2 Z post v0) (x1, (0 : Int32), h)
/-- NetJoins.hasPinOf(IIJJ)Z -/
def wj_NJ_hasPinOf_52 (Z : Nat → Nat) (post : Int32 → HS → Prop) (K3 : Int32 × Int32 × Int64 × Int64 × Int32 × HS → Prop) (v0 : Nat) (x1 : Int32) (x2 : Int32) (x3 : Int64) (x5 : Int64) (x7 : Int32) (h : HS) : Prop :=
  ∀ y1, y1 = x7 + (1 : Int32) → (K3 (x1, x2, x3, x5, y1, h))
def wb_NJ_hasPinOf_3 (Z : Nat → Nat) (post : Int32 → HS → Prop) (v0 : Nat) (K3 : Int32 × Int32 × Int64 × Int64 × Int32 × HS → Prop) : Int32 × Int32 × Int64 × Int64 × Int32 × HS → Prop := fun q => match q with
  | (x1, x2, x3, x5, x7, h) =>
  gT h v0 = 16 ∧ (∃ a4, (gR h 5 v0) = some a4 ∧ gT h a4 = 25 ∧ (wp_AL_size Z (fun r2 h3 => (r2 ≤ x7 → (post (0 : Int32) h3)) ∧ (¬ r2 ≤ x7 → (gT h3 v0 = 16 ∧ (∃ a10, (gR h3 5 v0) = some a10 ∧ gT h3 a10 = 25 ∧ (wp_AL_get Z (fun r8 h9 => (∀ z, r8 = some z → gT h9 z = 22) ∧ (∃ a13, r8 = some a13 ∧ gT h9 a13 = 22 ∧ ((¬ (gI h9 603 a13) = x1 → (wj_NJ_hasPinOf_52 Z post K3 v0 x1 x2 x3 x5 x7 h9)) ∧ ((gI h9 603 a13) = x1 → (∃ a18, r8 = some a18 ∧ gT h9 a18 = 22 ∧ (wp_Spot_isAt Z (fun r16 h17 => (r16 = 0 → (wj_NJ_hasPinOf_52 Z post K3 v0 x1 x2 x3 x5 x7 h17)) ∧ (¬ r16 = 0 → (post (1 : Int32) h17))) h9 a18 x2 x3 x5)))))) h3 a10 x7))))) h a4))
def wp_NJ_hasPinOf (Z : Nat → Nat) (post : Int32 → HS → Prop) (h : HS) (v0 : Nat) (x1 : Int32) (x2 : Int32) (x3 : Int64) (x5 : Int64) : Prop :=
  lp (wb_NJ_hasPinOf_3 Z post v0) (x1, x2, x3, x5, (0 : Int32), h)
/-- NetJoins.hasPort(III)Z -/
def wj_NJ_hasPort_58 (Z : Nat → Nat) (post : Int32 → HS → Prop) (K3 : Int32 × Int32 × Int32 × Int32 × HS → Prop) (v0 : Nat) (x1 : Int32) (x2 : Int32) (x3 : Int32) (x4 : Int32) (h : HS) : Prop :=
  ∀ y1, y1 = x4 + (1 : Int32) → (K3 (x1, x2, x3, y1, h))
def wb_NJ_hasPort_3 (Z : Nat → Nat) (post : Int32 → HS → Prop) (v0 : Nat) (K3 : Int32 × Int32 × Int32 × Int32 × HS → Prop) : Int32 × Int32 × Int32 × Int32 × HS → Prop := fun q => match q with
  | (x1, x2, x3, x4, h) =>
  gT h v0 = 16 ∧ (∃ a4, (gR h 6 v0) = some a4 ∧ gT h a4 = 25 ∧ (wp_AL_size Z (fun r2 h3 => (r2 ≤ x4 → (post (0 : Int32) h3)) ∧ (¬ r2 ≤ x4 → (gT h3 v0 = 16 ∧ (∃ a10, (gR h3 6 v0) = some a10 ∧ gT h3 a10 = 25 ∧ (wp_AL_get Z (fun r8 h9 => (∀ z, r8 = some z → gT h9 z = 20) ∧ (∃ a13, r8 = some a13 ∧ gT h9 a13 = 20 ∧ ((¬ (gI h9 400 a13) = x1 → (wj_NJ_hasPort_58 Z post K3 v0 x1 x2 x3 x4 h9)) ∧ ((gI h9 400 a13) = x1 → (∃ a16, r8 = some a16 ∧ gT h9 a16 = 20 ∧ ((¬ (gI h9 401 a16) = x2 → (wj_NJ_hasPort_58 Z post K3 v0 x1 x2 x3 x4 h9)) ∧ ((gI h9 401 a16) = x2 → (∃ a19, r8 = some a19 ∧ gT h9 a19 = 20 ∧ ((¬ (gI h9 402 a19) = x3 → (wj_NJ_hasPort_58 Z post K3 v0 x1 x2 x3 x4 h9)) ∧ ((gI h9 402 a19) = x3 → (post (1 : Int32) h9))))))))))) h3 a10 x4))))) h a4))
def wp_NJ_hasPort (Z : Nat → Nat) (post : Int32 → HS → Prop) (h : HS) (v0 : Nat) (x1 : Int32) (x2 : Int32) (x3 : Int32) : Prop :=
  lp (wb_NJ_hasPort_3 Z post v0) (x1, x2, x3, (0 : Int32), h)
/-- NetJoins.hasBus(IIII)Z -/
def wj_NJ_hasBus_68 (Z : Nat → Nat) (post : Int32 → HS → Prop) (K3 : Int32 × Int32 × Int32 × Int32 × Int32 × HS → Prop) (v0 : Nat) (x1 : Int32) (x2 : Int32) (x3 : Int32) (x4 : Int32) (x5 : Int32) (h : HS) : Prop :=
  ∀ y1, y1 = x5 + (1 : Int32) → (K3 (x1, x2, x3, x4, y1, h))
def wb_NJ_hasBus_3 (Z : Nat → Nat) (post : Int32 → HS → Prop) (v0 : Nat) (K3 : Int32 × Int32 × Int32 × Int32 × Int32 × HS → Prop) : Int32 × Int32 × Int32 × Int32 × Int32 × HS → Prop := fun q => match q with
  | (x1, x2, x3, x4, x5, h) =>
  gT h v0 = 16 ∧ (∃ a4, (gR h 7 v0) = some a4 ∧ gT h a4 = 25 ∧ (wp_AL_size Z (fun r2 h3 => (r2 ≤ x5 → (post (0 : Int32) h3)) ∧ (¬ r2 ≤ x5 → (gT h3 v0 = 16 ∧ (∃ a10, (gR h3 7 v0) = some a10 ∧ gT h3 a10 = 25 ∧ (wp_AL_get Z (fun r8 h9 => (∀ z, r8 = some z → gT h9 z = 17) ∧ (∃ a13, r8 = some a13 ∧ gT h9 a13 = 17 ∧ ((¬ (gI h9 100 a13) = x1 → (wj_NJ_hasBus_68 Z post K3 v0 x1 x2 x3 x4 x5 h9)) ∧ ((gI h9 100 a13) = x1 → (∃ a16, r8 = some a16 ∧ gT h9 a16 = 17 ∧ ((¬ (gI h9 101 a16) = x2 → (wj_NJ_hasBus_68 Z post K3 v0 x1 x2 x3 x4 x5 h9)) ∧ ((gI h9 101 a16) = x2 → (∃ a19, r8 = some a19 ∧ gT h9 a19 = 17 ∧ ((¬ (gI h9 102 a19) = x3 → (wj_NJ_hasBus_68 Z post K3 v0 x1 x2 x3 x4 x5 h9)) ∧ ((gI h9 102 a19) = x3 → (∃ a22, r8 = some a22 ∧ gT h9 a22 = 17 ∧ ((¬ (gI h9 103 a22) = x4 → (wj_NJ_hasBus_68 Z post K3 v0 x1 x2 x3 x4 x5 h9)) ∧ ((gI h9 103 a22) = x4 → (post (1 : Int32) h9)))))))))))))) h3 a10 x5))))) h a4))
def wp_NJ_hasBus (Z : Nat → Nat) (post : Int32 → HS → Prop) (h : HS) (v0 : Nat) (x1 : Int32) (x2 : Int32) (x3 : Int32) (x4 : Int32) : Prop :=
  lp (wb_NJ_hasBus_3 Z post v0) (x1, x2, x3, x4, (0 : Int32), h)
