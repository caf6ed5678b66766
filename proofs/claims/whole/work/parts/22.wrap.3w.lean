/-- NetJoinsLaw.sheet(LNetJoins;II[J)I -/
def wp_Law_sheet (Z : Nat → Nat) (post : Int32 → HS → Prop) (h : HS) (x0 : Option Nat) (x1 : Int32) (x2 : Int32) (x3 : Option Nat) : Prop :=
  ∃ a3, x0 = some a3 ∧ gT h a3 = 16 ∧ (wp_NJ_sheet Z (fun r1 h2 => ∃ a5, x3 = some a5 ∧ gT h2 a5 = 3 ∧ vp_in (0 : Int32) (gN h2 a5) ∧ (∀ h7, h7 = sL h2 a5 (0 : Int32).toNatClampNeg (r1.toInt64) → (post (0 : Int32) h7))) (fun k9 u => (k9 = 1 ∧ post (1 : Int32) u) ∨ (k9 = 2 ∧ post (2 : Int32) u)) h a3 x1 x2)
/-- NetJoinsLaw.wire(LNetJoins;IJJJJ[J)I -/
def wp_Law_wire (Z : Nat → Nat) (post : Int32 → HS → Prop) (h : HS) (x0 : Option Nat) (x1 : Int32) (x2 : Int64) (x4 : Int64) (x6 : Int64) (x8 : Int64) (x10 : Option Nat) : Prop :=
  ∃ a3, x0 = some a3 ∧ gT h a3 = 16 ∧ (wp_NJ_wire Z (fun r1 h2 => ∃ a5, x10 = some a5 ∧ gT h2 a5 = 3 ∧ vp_in (0 : Int32) (gN h2 a5) ∧ (∀ h7, h7 = sL h2 a5 (0 : Int32).toNatClampNeg (r1.toInt64) → (post (0 : Int32) h7))) (fun k9 u => (k9 = 1 ∧ post (1 : Int32) u) ∨ (k9 = 2 ∧ post (2 : Int32) u) ∨ (k9 = 3 ∧ post (3 : Int32) u)) h a3 x1 x2 x4 x6 x8)
/-- NetJoinsLaw.junction(LNetJoins;IJJ[J)I -/
def wp_Law_junction (Z : Nat → Nat) (post : Int32 → HS → Prop) (h : HS) (x0 : Option Nat) (x1 : Int32) (x2 : Int64) (x4 : Int64) (x6 : Option Nat) : Prop :=
  ∃ a3, x0 = some a3 ∧ gT h a3 = 16 ∧ (wp_NJ_junction Z (fun r1 h2 => (r1 = 0 → (∃ a6, x6 = some a6 ∧ gT h2 a6 = 3 ∧ vp_in (0 : Int32) (gN h2 a6) ∧ (∀ h8, h8 = sL h2 a6 (0 : Int32).toNatClampNeg (0 : Int64) → (post (0 : Int32) h8)))) ∧ (¬ r1 = 0 → (∃ a9, x6 = some a9 ∧ gT h2 a9 = 3 ∧ vp_in (0 : Int32) (gN h2 a9) ∧ (∀ h11, h11 = sL h2 a9 (0 : Int32).toNatClampNeg (1 : Int64) → (post (0 : Int32) h11))))) (fun k9 u => (k9 = 1 ∧ post (1 : Int32) u) ∨ (k9 = 2 ∧ post (2 : Int32) u) ∨ (k9 = 3 ∧ post (3 : Int32) u)) h a3 x1 x2 x4)
/-- NetJoinsLaw.label(LNetJoins;IJJI[J)I -/
def wp_Law_label (Z : Nat → Nat) (post : Int32 → HS → Prop) (h : HS) (x0 : Option Nat) (x1 : Int32) (x2 : Int64) (x4 : Int64) (x6 : Int32) (x7 : Option Nat) : Prop :=
  ∃ a3, x0 = some a3 ∧ gT h a3 = 16 ∧ (wp_NJ_label Z (fun r1 h2 => ∃ a5, x7 = some a5 ∧ gT h2 a5 = 3 ∧ vp_in (0 : Int32) (gN h2 a5) ∧ (∀ h7, h7 = sL h2 a5 (0 : Int32).toNatClampNeg (r1.toInt64) → (post (0 : Int32) h7))) (fun k9 u => (k9 = 1 ∧ post (1 : Int32) u) ∨ (k9 = 2 ∧ post (2 : Int32) u) ∨ (k9 = 3 ∧ post (3 : Int32) u)) h a3 x1 x2 x4 x6)
/-- NetJoinsLaw.pin(LNetJoins;IJJI[J)I -/
def wp_Law_pin (Z : Nat → Nat) (post : Int32 → HS → Prop) (h : HS) (x0 : Option Nat) (x1 : Int32) (x2 : Int64) (x4 : Int64) (x6 : Int32) (x7 : Option Nat) : Prop :=
  ∃ a3, x0 = some a3 ∧ gT h a3 = 16 ∧ (wp_NJ_pin Z (fun r1 h2 => ∃ a5, x7 = some a5 ∧ gT h2 a5 = 3 ∧ vp_in (0 : Int32) (gN h2 a5) ∧ (∀ h7, h7 = sL h2 a5 (0 : Int32).toNatClampNeg (r1.toInt64) → (post (0 : Int32) h7))) (fun k9 u => (k9 = 1 ∧ post (1 : Int32) u) ∨ (k9 = 2 ∧ post (2 : Int32) u) ∨ (k9 = 3 ∧ post (3 : Int32) u)) h a3 x1 x2 x4 x6)
/-- NetJoinsLaw.port(LNetJoins;III[J)I -/
def wp_Law_port (Z : Nat → Nat) (post : Int32 → HS → Prop) (h : HS) (x0 : Option Nat) (x1 : Int32) (x2 : Int32) (x3 : Int32) (x4 : Option Nat) : Prop :=
  ∃ a3, x0 = some a3 ∧ gT h a3 = 16 ∧ (wp_NJ_port Z (fun r1 h2 => (r1 = 0 → (∃ a6, x4 = some a6 ∧ gT h2 a6 = 3 ∧ vp_in (0 : Int32) (gN h2 a6) ∧ (∀ h8, h8 = sL h2 a6 (0 : Int32).toNatClampNeg (0 : Int64) → (post (0 : Int32) h8)))) ∧ (¬ r1 = 0 → (∃ a9, x4 = some a9 ∧ gT h2 a9 = 3 ∧ vp_in (0 : Int32) (gN h2 a9) ∧ (∀ h11, h11 = sL h2 a9 (0 : Int32).toNatClampNeg (1 : Int64) → (post (0 : Int32) h11))))) (fun k9 u => (k9 = 1 ∧ post (1 : Int32) u) ∨ (k9 = 2 ∧ post (2 : Int32) u) ∨ (k9 = 3 ∧ post (3 : Int32) u)) h a3 x1 x2 x3)
/-- NetJoinsLaw.bus(LNetJoins;IIII[J)I -/
def wp_Law_bus (Z : Nat → Nat) (post : Int32 → HS → Prop) (h : HS) (x0 : Option Nat) (x1 : Int32) (x2 : Int32) (x3 : Int32) (x4 : Int32) (x5 : Option Nat) : Prop :=
  ∃ a3, x0 = some a3 ∧ gT h a3 = 16 ∧ (wp_NJ_bus Z (fun r1 h2 => (r1 = 0 → (∃ a6, x5 = some a6 ∧ gT h2 a6 = 3 ∧ vp_in (0 : Int32) (gN h2 a6) ∧ (∀ h8, h8 = sL h2 a6 (0 : Int32).toNatClampNeg (0 : Int64) → (post (0 : Int32) h8)))) ∧ (¬ r1 = 0 → (∃ a9, x5 = some a9 ∧ gT h2 a9 = 3 ∧ vp_in (0 : Int32) (gN h2 a9) ∧ (∀ h11, h11 = sL h2 a9 (0 : Int32).toNatClampNeg (1 : Int64) → (post (0 : Int32) h11))))) (fun k9 u => (k9 = 1 ∧ post (1 : Int32) u) ∨ (k9 = 2 ∧ post (2 : Int32) u) ∨ (k9 = 3 ∧ post (3 : Int32) u)) h a3 x1 x2 x3 x4)
/-- NetJoinsLaw.netOf(LNetJoins;II[J)I -/
def wp_Law_netOf (Z : Nat → Nat) (post : Int32 → HS → Prop) (h : HS) (x0 : Option Nat) (x1 : Int32) (x2 : Int32) (x3 : Option Nat) : Prop :=
  ∃ a3, x0 = some a3 ∧ gT h a3 = 16 ∧ (wp_NJ_netOf Z (fun r1 h2 => ∃ a5, x3 = some a5 ∧ gT h2 a5 = 3 ∧ vp_in (0 : Int32) (gN h2 a5) ∧ (∀ h7, h7 = sL h2 a5 (0 : Int32).toNatClampNeg (r1.toInt64) → (post (0 : Int32) h7))) (fun k9 u => (k9 = 1 ∧ post (1 : Int32) u)) h a3 x1 x2)
/-- NetJoinsLaw.rank(LNetJoins;II[J)I -/
def wp_Law_rank (Z : Nat → Nat) (post : Int32 → HS → Prop) (h : HS) (x0 : Option Nat) (x1 : Int32) (x2 : Int32) (x3 : Option Nat) : Prop :=
  ∃ a3, x0 = some a3 ∧ gT h a3 = 16 ∧ (wp_NJ_rank Z (fun r1 h2 => (r1 = 0 → (∃ a6, x3 = some a6 ∧ gT h2 a6 = 3 ∧ vp_in (0 : Int32) (gN h2 a6) ∧ (∀ h8, h8 = sL h2 a6 (0 : Int32).toNatClampNeg (0 : Int64) → (post (0 : Int32) h8)))) ∧ (¬ r1 = 0 → (∃ a9, x3 = some a9 ∧ gT h2 a9 = 3 ∧ vp_in (0 : Int32) (gN h2 a9) ∧ (∀ h11, h11 = sL h2 a9 (0 : Int32).toNatClampNeg (1 : Int64) → (post (0 : Int32) h11))))) (fun k9 u => (k9 = 3 ∧ post (1 : Int32) u)) h a3 x1 x2)
/-- NetJoinsLaw.name(LNetJoins;I[J)I -/
def wp_Law_name (Z : Nat → Nat) (post : Int32 → HS → Prop) (h : HS) (x0 : Option Nat) (x1 : Int32) (x2 : Option Nat) : Prop :=
  ∃ a3, x0 = some a3 ∧ gT h a3 = 16 ∧ (wp_NJ_name Z (fun r1 h2 => ∃ a5, x2 = some a5 ∧ gT h2 a5 = 3 ∧ vp_in (0 : Int32) (gN h2 a5) ∧ (∀ h7, h7 = sL h2 a5 (0 : Int32).toNatClampNeg (r1.toInt64) → (post (0 : Int32) h7))) (fun k9 u => (k9 = 1 ∧ post (1 : Int32) u)) h a3 x1)
/-- NetJoinsLaw.drop(LNetJoins;I[J)I -/
def wp_Law_drop (Z : Nat → Nat) (post : Int32 → HS → Prop) (h : HS) (x0 : Option Nat) (x1 : Int32) (x2 : Option Nat) : Prop :=
  ∃ a3, x0 = some a3 ∧ gT h a3 = 16 ∧ (wp_NJ_drop Z (fun r1 h2 => ∃ a5, x2 = some a5 ∧ gT h2 a5 = 3 ∧ vp_in (0 : Int32) (gN h2 a5) ∧ (∀ h7, h7 = sL h2 a5 (0 : Int32).toNatClampNeg (r1.toInt64) → (post (0 : Int32) h7))) (fun k9 u => (k9 = 1 ∧ post (1 : Int32) u)) h a3 x1)
/-- NetJoinsLaw.open(LNetJoins;I[J)I -/
def wp_Law_open (Z : Nat → Nat) (post : Int32 → HS → Prop) (h : HS) (x0 : Option Nat) (x1 : Int32) (x2 : Option Nat) : Prop :=
  ∃ a3, x0 = some a3 ∧ gT h a3 = 16 ∧ (wp_NJ_open Z (fun r1 h2 => (r1 = 0 → (∃ a6, x2 = some a6 ∧ gT h2 a6 = 3 ∧ vp_in (0 : Int32) (gN h2 a6) ∧ (∀ h8, h8 = sL h2 a6 (0 : Int32).toNatClampNeg (0 : Int64) → (post (0 : Int32) h8)))) ∧ (¬ r1 = 0 → (∃ a9, x2 = some a9 ∧ gT h2 a9 = 3 ∧ vp_in (0 : Int32) (gN h2 a9) ∧ (∀ h11, h11 = sL h2 a9 (0 : Int32).toNatClampNeg (1 : Int64) → (post (0 : Int32) h11))))) (fun k9 u => (k9 = 1 ∧ post (1 : Int32) u)) h a3 x1)
